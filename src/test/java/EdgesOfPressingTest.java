/**
 * The edges of promises 11 to 14, 17, 21, 23 and 39, and of the terms behind them: a test a sentence, which stands on
 * top of it.
 */
public final class EdgesOfPressingTest {
    private static final String HOURS_1440 = "hour 60;".repeat(24);

    public static void main(String[] args) {
        pressOfOthers();
        pressOfOneGone();
        pressOfOneScorched();
        depthZeroAtLeast();
        pressesNone();
        drawByTen();
        drawWraps();
        drawBelowScorches();
        scorchesNeverAndAlways();
        scorchedAheadOfGone();
        scorchedAlone();
        goneWithThoseThere();
        goneByNumber();
        coinsZeroAtLeast();
        priceOfThePressedAlone();
        patternOfOthers();
        patternOfOneThere();
        patternOfOneScorched();
        patternOnThoseThere();
        patternNotThroughOthers();
        patternInARound();
        patternDepthAsTold();
        dampOfOthers();
        dampOfNone();
        dampAtMost();
        dampOnceThrough();
        dampDepthOne();
        dampNotScorched();
        hourOfOthers();
        hourBeyondTheLast();
        hourWithNineAtTheEnd();
        depthBelowWhatWasTold();
        depthOfThoseThere();
        foretoldOfOthers();
        foretoldOfThoseThatCanPass();
        foretoldOfOneNotThere();
        foretoldChangesNothing();
        bookEmpty();
        bookFull();
        bookOfOthers();
        bookAtTheLastHour();
        befellOfOthers();
        befellOfNone();
        befellOfOne();
        befellOfTheLatestThirty();
        undoOfNone();
        undoOfEachStep();
        undoOfThirty();
        undoOfTheBook();
        undoOfRefusedCalls();
        toldSinceIsAsTold();
        toldSinceUpToTheLast();
        tiesAndHeatStay();
        Due.finish();
    }

    /** Five CREASES of two PERSONS: 2 and 3 hang on 1, 4 on 3; DEPTHS 2, 4, 6, 8, 9. */
    private static IronedOut tied() {
        IronedOut x = new IronedOut();
        x.person(0, 9);
        x.person(1, 9000);
        int[] depths = {2, 4, 6, 8, 9};
        for (int i = 0; i < depths.length; i++) {
            x.crease(i % 2, i * 20, depths[i], i - 2);
        }
        x.tie(2, 1);
        x.tie(3, 1);
        x.tie(4, 3);
        return x;
    }

    private static IronedOut ruled(String laws) {
        IronedOut x = tied();
        x.by(Due.text(x, laws));
        return x;
    }

    /** 0 is gone, 4 is scorched; a STEP or two are there to be taken back. */
    private static IronedOut oneGoneOneScorched() {
        IronedOut x = tied();
        x.press(0);
        x.by(Due.text(x, "scorches 10; presses 1;"));
        x.press(4);
        x.by(-1);
        x.hour(3);
        return x;
    }

    /** HOUR is this, by few calls. */
    private static IronedOut at(int hour) {
        IronedOut x = tied();
        int text = Due.text(x, HOURS_1440);
        for (int i = 0; i < hour / 1440; i++) {
            x.played(text);
        }
        for (int left = hour % 1440; left > 0; left -= 60) {
            x.hour(Math.min(left, 60));
        }
        return x;
    }

    /** X is this: SEASONS without CREASES draw as often as is told. */
    private static IronedOut drawn(int x) {
        for (int seed = 0; seed <= 9999; seed++) {
            int at = seed * 2 + 167;
            for (int n = 1; n <= 40; n++) {
                at = next(at);
                if (at == x) {
                    IronedOut object = new IronedOut();
                    object.seasons(seed, n);
                    object.person(0, 9999);
                    object.crease(0, 0, 9, 0);
                    return object;
                }
            }
        }
        Due.due("X " + x + " was come to", false, true);
        return new IronedOut();
    }

    private static int next(int x) {
        return (int) ((x * 401L + 281) % 30509);
    }

    // Promise 11: "NONE, if it can't be, and for others."
    private static void pressOfOthers() {
        Twins.taken("press", EdgesOfPressingTest::tied, IronedOut::press, -1, 0, 4);
        Twins.refused("press", EdgesOfPressingTest::oneGoneOneScorched, IronedOut::press, -1, -1, 5, 11, 12);
        Twins.refused("press of none", IronedOut::new, IronedOut::press, -1, -1, 0);
    }

    // "PRESSED: one that is there"
    private static void pressOfOneGone() {
        IronedOut x = oneGoneOneScorched();
        Due.due("gone", x.ofCrease(0, 4), 1);
        Twins.leaves("press of one gone", EdgesOfPressingTest::oneGoneOneScorched, y -> y.press(0), -1);
    }

    private static void pressOfOneScorched() {
        IronedOut x = oneGoneOneScorched();
        Due.due("scorched", x.ofCrease(4, 4), 2);
        Twins.leaves("press of one scorched", EdgesOfPressingTest::oneGoneOneScorched, y -> y.press(4), -1);
    }

    // "DEPTH is less by presses (0 at least)"; promise 11: "DEPTH then (0: gone or scorched)".
    private static void depthZeroAtLeast() {
        for (int presses = 0; presses <= 9; presses++) {
            IronedOut x = ruled("scorches 0; presses " + presses + ";");
            int left = Math.max(0, 4 - presses);
            Due.due("4 less " + presses, x.press(1), left);
            Due.due("DEPTH", x.ofCrease(1, 2), left);
            Due.due("gone if 0", x.ofCrease(1, 4), left == 0 ? 1 : 0);
            Due.due("with all that hang on it", x.of(0, 3) | x.of(1, 3), left == 0 ? 1 : 31);
        }
    }

    // A PRESSED one by which DEPTH is no less is PRESSED: a draw, a price, a STEP.
    private static void pressesNone() {
        IronedOut x = ruled("presses 0; price 5; scorches 0;");
        Due.due("DEPTH", x.press(1), 4);
        Due.due("COINS", x.of(1, 1), 8995);
        Due.due("X", x.is(2), 6230);
        Due.due("nothing is written", x.book(-1, 0), 0);
        Due.due("a STEP", x.about(3), 1);
    }

    // "a draw by 10 (X mod 10, ...)": each of the ten.
    private static void drawByTen() {
        for (int draw = 0; draw <= 9; draw++) {
            IronedOut below = drawn(20000 + draw);
            below.by(Due.text(below, "scorches " + (draw + 1) + ";"));
            below.press(0);
            Due.due(draw + " is below " + (draw + 1), below.ofCrease(0, 4), 2);
            IronedOut like = drawn(20000 + draw);
            like.by(Due.text(like, "scorches " + draw + ";"));
            like.press(0);
            Due.due(draw + " isn't below " + draw, like.ofCrease(0, 4), 0);
        }
    }

    // "X becoming (X * 401 + 281) mod 30509 behind it": the least, the greatest, and where it wraps around.
    private static void drawWraps() {
        int toNothing = 0;
        while (next(toNothing) != 0) {
            toNothing++;
        }
        int[][] steps = {{0, 281}, {75, 30356}, {76, 248}, {30508, 30389}, {toNothing, 0}};
        for (int[] step : steps) {
            IronedOut x = drawn(step[0]);
            Due.due("X", x.is(2), step[0]);
            Due.due("PRESSED", x.press(0), 7);
            Due.due("X behind " + step[0], x.is(2), step[1]);
        }
        IronedOut x = tied();
        int at = 167;
        for (int i = 0; i < 150; i++) {
            x.press(1);
            x.pattern(1);
            at = next(at);
            Due.due("X behind " + (i + 1), x.is(2), at);
        }
    }

    // "below scorches: it is scorched, DEPTH 0"; X is 167, then 6230: draws 7, then 0.
    private static void drawBelowScorches() {
        int[][] cases = {{7, 0}, {8, 2}};
        for (int[] c : cases) {
            IronedOut x = ruled("presses 1; scorches " + c[0] + ";");
            x.press(4);
            Due.due("7 below " + c[0], x.ofCrease(4, 4), c[1]);
            Due.due("DEPTH", x.ofCrease(4, 2), c[1] == 0 ? 8 : 0);
        }
        for (int scorches = 0; scorches <= 1; scorches++) {
            IronedOut x = tied();
            x.press(1);
            x.by(Due.text(x, "presses 1; scorches " + scorches + ";"));
            x.press(4);
            Due.due("0 below " + scorches, x.ofCrease(4, 4), scorches * 2);
        }
    }

    // "scorches (the odds of 10)": 0 of 10 and 10 of 10.
    private static void scorchesNeverAndAlways() {
        IronedOut never = ruled("presses 0; scorches 0;");
        for (int i = 0; i < 100; i++) {
            never.press(4);
        }
        Due.due("never", never.ofCrease(4, 4), 0);
        for (int draw = 0; draw <= 9; draw++) {
            IronedOut always = drawn(20000 + draw);
            always.by(Due.text(always, "presses 0; scorches 10;"));
            Due.due("always", always.press(0), 0);
            Due.due("always", always.ofCrease(0, 4), 2);
        }
    }

    // "it is scorched, DEPTH 0; else, if DEPTH is 0: it is gone": not both.
    private static void scorchedAheadOfGone() {
        IronedOut x = ruled("presses 9; scorches 10;");
        Due.due("scorched", x.press(1), 0);
        Due.due("scorched", x.ofCrease(1, 4), 2);
        Due.due("all that hang on it are there", x.of(0, 3) | x.of(1, 3), 29);
        Due.due("one line", x.book(-1, 0), 1);
        Due.due("scorched", x.book(0, 2), 1);
    }

    private static void scorchedAlone() {
        IronedOut x = ruled("presses 1; scorches 10;");
        x.press(1);
        Due.due("DEPTH 0", x.ofCrease(1, 2), 0);
        for (int i = 2; i <= 4; i++) {
            Due.due("DEPTH of what hangs on it", x.ofCrease(i, 2), 2 + 2 * i - i / 4);
        }
    }

    // "it is gone, and all HANGING of it that are there": what is gone or scorched stays so, and isn't written again.
    private static void goneWithThoseThere() {
        IronedOut x = ruled("presses 9; scorches 0;");
        x.press(3);
        Due.due("3 and 4", x.book(-1, 0), 2);
        x.by(Due.text(x, "presses 1; scorches 10;"));
        x.press(2);
        x.by(0);
        x.press(1);
        Due.due("1 alone went", x.book(-1, 0), 4);
        Due.due("1", x.book(3, 1), 1);
        Due.due("scorched yet", x.ofCrease(2, 4), 2);
        Due.due("DEPTH 0 each", x.ofCrease(1, 2) + x.ofCrease(3, 2) + x.ofCrease(4, 2), 0);
        x = ruled("presses 9; scorches 0;");
        x.press(3);
        x.pattern(3);
        x.press(1);
        Due.due("through 3 also what was gone isn't gone again", x.book(-1, 0), 6);
        Due.due("0 is there", x.of(0, 3) | x.of(1, 3), 1);
    }

    // "by number": the one that is PRESSED in its place, be it the lowest or the highest.
    private static void goneByNumber() {
        IronedOut x = ruled("presses 9; scorches 0;");
        x.press(1);
        for (int i = 0; i < 4; i++) {
            Due.due("the lowest is PRESSED", x.book(i, 1), i + 1);
        }
        x = ruled("presses 9; scorches 0;");
        x.tie(1, 4);
        x.press(4);
        for (int i = 0; i < 4; i++) {
            Due.due("the highest is PRESSED", x.book(i, 1), i + 1);
        }
        Due.due("four", x.book(-1, 0), 4);
    }

    // "COINS of the PERSON are less by price (0 at least)".
    private static void coinsZeroAtLeast() {
        int[][] cases = {{0, 9}, {8, 1}, {9, 0}, {10, 0}, {9999, 0}};
        for (int[] c : cases) {
            IronedOut x = ruled("presses 1; price " + c[0] + ";");
            x.press(2);
            Due.due("9 less " + c[0], x.of(0, 1), c[1]);
            Due.due("the other's stay", x.of(1, 1), 9000);
            x.press(2);
            Due.due("and less again", x.of(0, 1), Math.max(0, c[1] - c[0]));
        }
    }

    private static void priceOfThePressedAlone() {
        IronedOut x = ruled("presses 9; scorches 0; price 1;");
        x.press(1);
        Due.due("four go, one is paid", x.of(1, 1), 8999);
        Due.due("by its PERSON alone", x.of(0, 1), 9);
        x = tied();
        x.heat(9);
        x.press(1);
        Due.due("without a law: DEPTH as it is then, 0", x.of(1, 1), 9000);
    }

    // Promise 12: "False, if it can't be, and for others."
    private static void patternOfOthers() {
        Twins.taken("pattern", EdgesOfPressingTest::oneGoneOneScorched, (x, i) -> x.pattern(i) ? 1 : 0, 0, 0);
        Twins.refused("pattern", EdgesOfPressingTest::oneGoneOneScorched, (x, i) -> x.pattern(i) ? 1 : 0, 0, -1, 5, 11, 12);
        Twins.refused("pattern of none", IronedOut::new, (x, i) -> x.pattern(i) ? 1 : 0, 0, -1, 0);
    }

    // "BACK by a PATTERN: one that is gone"
    private static void patternOfOneThere() {
        Twins.leaves("one that is there", EdgesOfPressingTest::oneGoneOneScorched, x -> x.pattern(1) ? 1 : 0, 0);
        Twins.leaves("one that came back", () -> {
            IronedOut x = oneGoneOneScorched();
            x.pattern(0);
            return x;
        }, x -> x.pattern(0) ? 1 : 0, 0);
    }

    private static void patternOfOneScorched() {
        Twins.leaves("one scorched", EdgesOfPressingTest::oneGoneOneScorched, x -> x.pattern(4) ? 1 : 0, 0);
    }

    // "if all on which it hangs are there": one gone, or one scorched, and it can't be.
    private static void patternOnThoseThere() {
        IronedOut x = ruled("presses 9; scorches 0;");
        x.tie(0, 2);
        x.tie(0, 3);
        x.press(0);
        Due.due("both are there", x.pattern(0), true);
        x.press(0);
        x.press(2);
        Due.due("one is gone", x.pattern(0), false);
        x.pattern(2);
        x.by(Due.text(x, "presses 1; scorches 10;"));
        x.press(3);
        Due.due("the other is scorched", x.pattern(0), false);
        Due.due("gone yet", x.ofCrease(0, 4), 1);
    }

    // "(itself, not through others)"
    private static void patternNotThroughOthers() {
        IronedOut x = ruled("presses 9; scorches 0;");
        x.press(4);
        x.by(Due.text(x, "presses 1; scorches 10;"));
        x.press(1);
        Due.due("1 is scorched, 3 is there", x.of(0, 3) | x.of(1, 3), 13);
        Due.due("4 hangs on 3", x.pattern(4), true);
    }

    private static void patternInARound() {
        IronedOut x = ruled("presses 9; scorches 0;");
        x.tie(0, 1);
        x.tie(1, 0);
        x.press(0);
        Due.due("one waits for the other", x.pattern(0), false);
        Due.due("one waits for the other", x.pattern(1), false);
        Due.due("and so by DAMP", x.damp(9), 0);
    }

    // "is there again, DEPTH as told"
    private static void patternDepthAsTold() {
        IronedOut x = new IronedOut();
        x.person(0, 0);
        x.crease(0, 0, 1, 0);
        x.crease(0, 0, 9, 0);
        x.by(Due.text(x, "presses 9; scorches 0;"));
        for (int i = 0; i < 2; i++) {
            x.press(i);
            Due.due("DEPTH 0", x.ofCrease(i, 2), 0);
            Due.due("back", x.pattern(i), true);
            Due.due("DEPTH as told", x.ofCrease(i, 2), i == 0 ? 1 : 9);
        }
    }

    // Promise 13: "NONE for others (1 .. 9)".
    private static void dampOfOthers() {
        Twins.taken("damp", EdgesOfPressingTest::oneGoneOneScorched, IronedOut::damp, -1, 1, 9);
        Twins.refused("damp", EdgesOfPressingTest::oneGoneOneScorched, IronedOut::damp, -1, -1, 0, 10);
    }

    // DAMP can always be: with none to come back it is a STEP, by which nothing else is changed.
    private static void dampOfNone() {
        IronedOut x = new IronedOut();
        Due.due("without CREASES", x.damp(9), 0);
        Due.due("a STEP", x.about(3), 1);
        Due.due("taken back", x.undo(), 0);
        x = tied();
        Due.due("all are there", x.damp(1), 0);
        Due.due("a STEP", x.about(3), 1);
        Due.due("nothing is written", x.book(-1, 0), 0);
        x.undo();
        Twins.alike("DAMP of none", x, tied());
    }

    // "n at most": of twelve that are gone.
    private static void dampAtMost() {
        for (int n = 1; n <= 9; n++) {
            IronedOut x = new IronedOut();
            x.person(0, 0);
            for (int i = 0; i < 12; i++) {
                x.crease(0, i, 1, 0);
                x.press(i);
            }
            Due.due("n come back", x.damp(n), n);
            Due.due("the lowest", x.of(0, 3), (1 << n) - 1);
            Due.due("the others, but n", x.damp(9), Math.min(9, 12 - n));
        }
        IronedOut x = ruled("presses 9; scorches 0;");
        x.press(0);
        x.press(3);
        Due.due("fewer than n", x.damp(9), 3);
    }

    // "once through all by number": what comes back may bring back a higher one, a lower one not.
    private static void dampOnceThrough() {
        IronedOut x = ruled("presses 9; scorches 0;");
        x.press(1);
        Due.due("1, then 2, 3, 4", x.damp(9), 4);
        x = ruled("presses 9; scorches 0;");
        x.tie(0, 4);
        x.press(1);
        Due.due("all are gone", x.of(0, 3) | x.of(1, 3), 0);
        Due.due("0 hangs on 4: not yet", x.damp(9), 4);
        Due.due("0", x.damp(9), 1);
        Due.due("in the order in which they are come to", x.book(8, 1) * 10 + x.book(9, 1), 40);
    }

    // "one that is gone and may come back so is there, DEPTH 1".
    private static void dampDepthOne() {
        IronedOut x = ruled("presses 9; scorches 0;");
        x.press(0);
        x.press(1);
        x.damp(9);
        for (int i = 0; i < 5; i++) {
            Due.due("DEPTH 1", x.ofCrease(i, 2), 1);
            Due.due("there", x.ofCrease(i, 4), 0);
        }
        Due.due("DEPTH of those that were there stays", tiedBesides(), 6);
    }

    private static int tiedBesides() {
        IronedOut x = ruled("presses 9; scorches 0;");
        x.press(0);
        x.damp(9);
        return x.ofCrease(2, 2);
    }

    private static void dampNotScorched() {
        IronedOut x = oneGoneOneScorched();
        Due.due("0 alone", x.damp(9), 1);
        Due.due("scorched yet", x.ofCrease(4, 4), 2);
        x = ruled("presses 9; scorches 0;");
        x.press(4);
        x.by(Due.text(x, "scorches 10;"));
        x.press(3);
        Due.due("4 hangs on one that is scorched", x.damp(9), 0);
    }

    // Promise 14: "HOURS pass (1 .. 60): HOUR. NONE for others".
    private static void hourOfOthers() {
        Twins.taken("hour", EdgesOfPressingTest::tied, IronedOut::hour, -1, 1, 60);
        Twins.refused("hour", EdgesOfPressingTest::oneGoneOneScorched, IronedOut::hour, -1, -1, 0, 61);
    }

    // "or beyond 9999 (nothing is done then)"; "at 9999 none can pass".
    private static void hourBeyondTheLast() {
        Due.due("9999", at(9939).hour(60), 9999);
        Twins.leaves("beyond by one", () -> at(9940), x -> x.hour(60), -1);
        Due.due("the last one", at(9998).hour(1), 9999);
        Twins.leaves("beyond by one", () -> at(9998), x -> x.hour(2), -1);
        Twins.refused("at the last", () -> at(9999), IronedOut::hour, -1, 0, 1, 2, 59, 60, 61);
    }

    // "and HOUR mod 10 is 9. Then HOUR is one more".
    private static void hourWithNineAtTheEnd() {
        IronedOut x = tied();
        x.press(4);
        x.press(4);
        x.press(4);
        for (int hour = 1; hour <= 30; hour++) {
            Due.due("HOUR", x.hour(1), hour);
            Due.due("DEPTH at " + hour, x.ofCrease(4, 2), 3 + hour / 10);
        }
        x = at(9989);
        x.press(4);
        x.press(4);
        Due.due("the last ten begin", x.hour(1), 9990);
        Due.due("DEPTH", x.ofCrease(4, 2), 6);
        Due.due("the last HOUR", x.hour(9), 9999);
        Due.due("DEPTH: of 9999 none passes", x.ofCrease(4, 2), 6);
    }

    // "DEPTH is 1 more, if it is below what was told".
    private static void depthBelowWhatWasTold() {
        IronedOut x = ruled("presses 1; scorches 0;");
        x.press(1);
        x.press(2);
        x.press(2);
        x.hour(10);
        Due.due("one below", x.ofCrease(1, 2), 4);
        Due.due("two below", x.ofCrease(2, 2), 5);
        Due.due("as told", x.ofCrease(3, 2), 8);
        x.hour(60);
        Due.due("no more than told", x.ofCrease(1, 2), 4);
        Due.due("no more than told", x.ofCrease(2, 2), 6);
        Due.due("9 at most", x.ofCrease(4, 2), 9);
    }

    // "by CREASES that are there"
    private static void depthOfThoseThere() {
        IronedOut x = oneGoneOneScorched();
        x.hour(60);
        Due.due("gone", x.ofCrease(0, 2), 0);
        Due.due("scorched", x.ofCrease(4, 2), 0);
        x.damp(1);
        x.hour(10);
        Due.due("back by DAMP", x.ofCrease(0, 2), 2);
    }

    // Promise 23: "NONE for others."; "FORETOLD behind n HOURS (1 .. 60)".
    private static void foretoldOfOthers() {
        Twins.taken("n", EdgesOfPressingTest::tied, (x, n) -> x.foretold(n, 0), -1, 1, 60);
        Twins.refused("n", EdgesOfPressingTest::oneGoneOneScorched, (x, n) -> x.foretold(n, 1), -1, -1, 0, 61);
        Twins.taken("crease", EdgesOfPressingTest::tied, (x, i) -> x.foretold(1, i), -1, 0, 4);
        Twins.refused("crease", EdgesOfPressingTest::oneGoneOneScorched, (x, i) -> x.foretold(1, i), -1, -1, 5, 12);
    }

    // "those that can pass"
    private static void foretoldOfThoseThatCanPass() {
        IronedOut x = at(9975);
        x.press(4);
        x.press(4);
        int[][] due = {{4, 5}, {5, 6}, {14, 6}, {15, 7}, {24, 7}, {25, 7}, {60, 7}};
        for (int[] d : due) {
            Due.due("behind " + d[0], x.foretold(d[0], 4), d[1]);
        }
        x.hour(15);
        Due.due("at 9990", x.foretold(60, 4), 7);
        x.press(4);
        Due.due("at 9990, no ten begins", x.foretold(60, 4), 5);
        x.hour(9);
        Due.due("at 9999", x.foretold(1, 4), 5);
        Due.due("at 9999", x.foretold(60, 4), 5);
        Due.due("as told at most", x.foretold(60, 1), 4);
    }

    private static void foretoldOfOneNotThere() {
        IronedOut x = oneGoneOneScorched();
        Due.due("gone", x.foretold(60, 0), 0);
        Due.due("scorched", x.foretold(60, 4), 0);
        for (int n = 1; n <= 60; n++) {
            IronedOut y = tied();
            y.press(4);
            y.press(4);
            y.press(4);
            int foretold = y.foretold(n, 4);
            y.hour(n);
            Due.due("as it comes, " + n, foretold, y.ofCrease(4, 2));
        }
    }

    private static void foretoldChangesNothing() {
        Twins.leaves("foretold(60, 1)", EdgesOfPressingTest::oneGoneOneScorched, x -> x.foretold(60, 1), 4);
    }

    // Promise 21: "how many (i NONE)": none.
    private static void bookEmpty() {
        IronedOut x = tied();
        Due.due("none", x.book(-1, 0), 0);
        for (int what = 0; what <= 2; what++) {
            Due.due("none such", x.book(0, what), -2);
        }
        x.press(4);
        x.hour(60);
        x.damp(9);
        Due.due("what is PRESSED and stays isn't written down, nor HOURS", x.book(-1, 0), 0);
    }

    /** This many lines: 0 goes and comes back, an HOUR each. */
    private static IronedOut booked(int lines) {
        IronedOut x = ruled("presses 9; scorches 0; price 0;");
        for (int i = 0; i < lines; i++) {
            if (i % 2 == 0) {
                x.press(0);
            } else {
                x.pattern(0);
            }
            x.hour(1);
        }
        return x;
    }

    // "BOOK (the latest 30)"; promise 21: "the i-th, from the eldest on".
    private static void bookFull() {
        for (int lines = 28; lines <= 33; lines++) {
            IronedOut x = booked(lines);
            int kept = Math.min(30, lines);
            Due.due("lines", x.book(-1, 0), kept);
            Due.due("the eldest", x.book(0, 0), lines - kept);
            Due.due("the latest", x.book(kept - 1, 0), lines - 1);
            Due.due("the latest", x.book(kept - 1, 2), lines % 2 == 1 ? 0 : 2);
            Due.due("none such", x.book(kept, 0), -2);
        }
        IronedOut x = booked(29);
        x.pattern(0);
        x.press(1);
        Due.due("four at once", x.book(-1, 0), 30);
        Due.due("the four eldest gave way", x.book(0, 0), 4);
        for (int i = 26; i < 30; i++) {
            Due.due("the latest four", x.book(i, 1), i - 25);
        }
    }

    // "-2 if there is none such, and for others."
    private static void bookOfOthers() {
        Twins.taken("the i-th", () -> booked(3), (x, i) -> x.book(i, 0), -2, -1, 0, 2);
        Twins.refused("the i-th", () -> booked(3), (x, i) -> x.book(i, 0), -2, -2, 3, 29, 30);
        Twins.refused("the i-th of 30", () -> booked(31), (x, i) -> x.book(i, 0), -2, -2, 30, 31);
        Twins.taken("what", () -> booked(3), (x, what) -> x.book(0, what), -2, 0, 2);
        Twins.refused("what", () -> booked(3), (x, what) -> x.book(0, what), -2, -1, 3);
    }

    // "BOOK: HOUR, CREASE, what": the highest of each.
    private static void bookAtTheLastHour() {
        IronedOut x = at(9999);
        for (int i = 5; i < 12; i++) {
            x.crease(0, 99, 1, 0);
        }
        x.press(11);
        x.pattern(11);
        Due.due("HOUR", x.book(1, 0), 9999);
        Due.due("CREASE", x.book(1, 1), 11);
        Due.due("what", x.book(1, 2), 2);
        Due.due("what", x.book(0, 2), 0);
    }

    // Promise 39: "-2 for others."
    private static void befellOfOthers() {
        Twins.taken("crease", () -> booked(3), (x, i) -> x.befell(i, 0), -2, -1, 0, 4);
        Twins.refused("crease", () -> booked(3), (x, i) -> x.befell(i, 0), -2, -2, 5, 11, 12);
        Twins.taken("what", () -> booked(3), (x, what) -> x.befell(0, what), -2, 0, 2);
        Twins.refused("what", () -> booked(3), (x, what) -> x.befell(0, what), -2, -1, 3);
        Twins.refused("what of all", () -> booked(3), (x, what) -> x.befell(-1, what), -2, -1, 3);
        Twins.refused("crease of none", IronedOut::new, (x, i) -> x.befell(i, 0), -2, -2, 0);
    }

    private static void befellOfNone() {
        for (int what = 0; what <= 2; what++) {
            Due.due("without CREASES", new IronedOut().befell(-1, what), 0);
            Due.due("of a CREASE without lines", booked(3).befell(4, what), 0);
        }
        Due.due("scorched", booked(3).befell(-1, 1), 0);
    }

    // Promise 39: "of a CREASE": of that one alone, from the lowest to the highest.
    private static void befellOfOne() {
        IronedOut x = ruled("presses 9; scorches 0;");
        x.press(1);
        x.damp(2);
        for (int i = 0; i < 5; i++) {
            Due.due("gone, " + i, x.befell(i, 0), i == 0 ? 0 : 1);
            Due.due("scorched, " + i, x.befell(i, 1), 0);
            Due.due("back, " + i, x.befell(i, 2), i == 1 || i == 2 ? 1 : 0);
        }
        Due.due("gone, all", x.befell(-1, 0), 4);
        Due.due("back, all", x.befell(-1, 2), 2);
    }

    // "BY THE BOOK": what gave way in it isn't counted.
    private static void befellOfTheLatestThirty() {
        Due.due("15 of 30", booked(30).befell(0, 0), 15);
        Due.due("15 of 31", booked(31).befell(0, 0), 15);
        IronedOut x = ruled("presses 9; scorches 0;");
        x.press(4);
        for (int i = 0; i < 15; i++) {
            x.press(0);
            x.pattern(0);
        }
        Due.due("4 gave way", x.befell(4, 0), 0);
        Due.due("all of the gone", x.befell(-1, 0), 15);
        Due.due("all of those back", x.befell(-1, 2), 15);
    }

    // Promise 17: "NONE: there is none."
    private static void undoOfNone() {
        Twins.leaves("undo()", EdgesOfPressingTest::tied, IronedOut::undo, -1);
        Twins.leaves("undo() behind all", () -> {
            IronedOut x = tied();
            x.press(1);
            x.undo();
            return x;
        }, IronedOut::undo, -1);
    }

    // "STEPS: PRESSED, BACK, DAMP, an HOUR (each), SEASONS": all is as ahead of it.
    private static void undoOfEachStep() {
        taken(IronedOut::press, 1, 1);
        taken(IronedOut::press, 3, 1);
        taken((x, i) -> x.pattern(i) ? 1 : 0, 0, 1);
        taken(IronedOut::damp, 9, 1);
        taken(IronedOut::hour, 1, 1);
        taken(IronedOut::hour, 20, 20);
        taken((x, n) -> x.seasons(17, n), 40, 1);
    }

    private static void taken(Twins.Asked step, int value, int steps) {
        IronedOut x = oneGoneOneScorched();
        step.of(x, value);
        Due.due("STEPS", x.about(3), 5 + steps);
        for (int i = steps - 1; i >= 0; i--) {
            Due.due("taken back", x.undo(), 5 + i);
        }
        Twins.alike("a STEP taken back", x, oneGoneOneScorched());
    }

    // "the latest 30 can be taken back, the latest first"; promise 17: "how many can be yet".
    private static void undoOfThirty() {
        for (int hours = 29; hours <= 32; hours++) {
            IronedOut x = tied();
            x.hour(hours);
            int steps = Math.min(30, hours);
            Due.due("STEPS", x.about(3), steps);
            for (int i = 1; i <= steps; i++) {
                Due.due("how many yet", x.undo(), steps - i);
                Due.due("HOUR", x.is(0), hours - i);
            }
            Due.due("none", x.undo(), -1);
            Due.due("HOUR", x.is(0), hours - steps);
        }
        IronedOut x = tied();
        x.hour(30);
        x.undo();
        Due.due("29 and one", x.hour(1), 30);
        Due.due("STEPS", x.about(3), 30);
        x.press(1);
        Due.due("30 yet", x.about(3), 30);
        for (int i = 0; i < 30; i++) {
            x.undo();
        }
        Due.due("the eldest gave way", x.is(0), 1);
    }

    // "BOOK are as ahead of it": what gave way is there again.
    private static void undoOfTheBook() {
        IronedOut x = booked(30);
        x.press(0);
        x.pattern(0);
        Due.due("the eldest gave way", x.book(0, 0), 2);
        x.undo();
        Due.due("the eldest", x.book(0, 0), 1);
        x.undo();
        Due.due("the eldest", x.book(0, 0), 0);
        Due.due("30", x.book(-1, 0), 30);
    }

    // What is refused isn't a STEP, and nothing but these is.
    private static void undoOfRefusedCalls() {
        IronedOut x = oneGoneOneScorched();
        int steps = x.about(3);
        x.person(0, 0);
        x.crease(0, 0, 1, 0);
        x.tie(1, 0);
        x.heat(3);
        x.by(0);
        x.image();
        x.want(0, 1);
        x.press(4);
        x.pattern(4);
        x.damp(0);
        x.hour(0);
        x.seasons(0, 0);
        Due.due("STEPS", x.about(3), steps);
    }

    // "PERSONS, CREASES told since are as told".
    private static void toldSinceIsAsTold() {
        IronedOut x = tied();
        x.hour(1);
        x.person(2, 77);
        x.crease(2, 99, 9, -9);
        x.by(Due.text(x, "presses 9; scorches 0; price 7;"));
        x.press(5);
        x.hour(1);
        for (int i = 0; i < 3; i++) {
            x.undo();
        }
        Due.due("HOUR", x.is(0), 0);
        Due.due("PERSONS", x.about(0), 3);
        Due.due("COINS as told", x.of(2, 1), 77);
        Due.due("there", x.ofCrease(5, 4), 0);
        Due.due("DEPTH as told", x.ofCrease(5, 2), 9);
        Due.due("WORTH", x.ofCrease(5, 3), -9);
        x = tied();
        x.hour(1);
        x.by(Due.text(x, "presses 1; scorches 0; price 7;"));
        x.press(4);
        x.person(2, 77);
        x.crease(2, 99, 9, 0);
        x.press(5);
        x.undo();
        Due.due("ahead of the press of 5", x.of(2, 1) * 10 + x.ofCrease(5, 2), 779);
        Due.due("4 is PRESSED yet", x.ofCrease(4, 2), 8);
    }

    // Told since, up to all there can be.
    private static void toldSinceUpToTheLast() {
        IronedOut x = new IronedOut();
        x.hour(1);
        for (int i = 0; i < 5; i++) {
            x.person(0, 90 + i);
        }
        for (int i = 0; i < 12; i++) {
            x.crease(4, i, 2, 0);
            x.tie(i, i - 1);
        }
        Due.due("all go", x.press(0), 0);
        Due.due("the last one, too", x.press(11), -1);
        Due.due("taken back", x.undo(), 1);
        Due.due("ahead of all of them", x.undo(), 0);
        Due.due("HOUR", x.is(0), 0);
        Due.due("PERSONS", x.about(0), 5);
        Due.due("CREASES", x.is(3), 12);
        Due.due("COINS as told", x.of(4, 1), 94);
        Due.due("all are there", x.of(4, 3), 4095);
        for (int i = 0; i < 12; i++) {
            Due.due("DEPTH as told", x.ofCrease(i, 2), 2);
        }
    }

    // "TIES, HEAT stay".
    private static void tiesAndHeatStay() {
        IronedOut x = tied();
        x.hour(1);
        x.tie(0, 4);
        x.heat(9);
        x.undo();
        Due.due("the TIE stays", x.ofCrease(0, 5), 16);
        Due.due("HANGING", x.hanging(1), 31);
        Due.due("HEAT stays", x.is(1), 9);
    }
}
