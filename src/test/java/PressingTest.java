/** Promises 11 to 14, 16, 17, 21, 23 and 39: pressing, patterns, damp, hours, seasons, the book, steps taken back. */
public final class PressingTest {
    public static void main(String[] args) {
        pressed();
        scorched();
        goneWithHanging();
        patterns();
        damp();
        hours();
        foretold();
        theLastHours();
        book();
        undone();
        undoneThirtyTimes();
        toldSince();
        seasons();
        seasonsWithoutCreases();
        seasonsAtTheEnd();
        Due.finish();
    }

    private static IronedOut chain() {
        IronedOut x = new IronedOut();
        x.person(0, 50);
        x.person(1, 7);
        x.crease(0, 10, 5, 1);
        x.crease(1, 20, 6, 2);
        x.crease(0, 30, 7, 3);
        x.crease(1, 40, 8, 4);
        x.tie(0, 3);
        x.tie(2, 0);
        return x;
    }

    private static void pressed() {
        IronedOut x = chain();
        Due.due("press(-1)", x.press(-1), -1);
        Due.due("press(4)", x.press(4), -1);
        Due.due("no STEP", x.about(3), 0);
        Due.due("no draw", x.is(2), 167);
        Due.due("press(1)", x.press(1), 4);
        Due.due("X", x.is(2), 6230);
        Due.due("COINS", x.of(1, 1), 3);
        Due.due("COINS of the other", x.of(0, 1), 50);
        Due.due("press(1)", x.press(1), 2);
        Due.due("COINS", x.of(1, 1), 1);
        Due.due("press(3)", x.press(3), 6);
        Due.due("COINS 0 at least", x.of(1, 1), 0);
        Due.due("press(1)", x.press(1), 0);
        Due.due("gone", x.ofCrease(1, 4), 1);
        Due.due("press(1)", x.press(1), -1);
        Due.due("STEPS", x.about(3), 4);
        x.heat(1);
        Due.due("presses 0", x.press(0), 5);
    }

    /** The laws are asked when they are come to: presses ahead of it, scorches and price behind it. */
    private static void scorched() {
        IronedOut x = chain();
        x.by(Due.text(x, "presses depth-2;scorches depth*4;price depth+10;"));
        Due.due("7 is below 8", x.press(0), 0);
        Due.due("scorched", x.ofCrease(0, 4), 2);
        Due.due("COINS", x.of(0, 1), 40);
        Due.due("what hangs on it stays", x.ofCrease(2, 4), 0);
        Due.due("X", x.is(2), 6230);
        Due.due("book", x.book(0, 2), 1);
        Due.due("pattern of scorched", x.pattern(0), false);
        Due.due("damp of scorched", x.damp(9), 0);
        Due.due("press of scorched", x.press(0), -1);
        x = chain();
        x.by(Due.text(x, "presses 9;scorches 8;"));
        Due.due("scorched ahead of gone", x.press(3), 0);
        Due.due("scorched", x.ofCrease(3, 4), 2);
        Due.due("not gone", x.ofCrease(0, 4), 0);
        x = chain();
        x.by(Due.text(x, "presses 9;scorches 7;"));
        Due.due("7 isn't below 7", x.press(3), 0);
        Due.due("gone", x.ofCrease(3, 4), 1);
        x = chain();
        x.heat(9);
        x.press(0);
        Due.due("7 isn't below 3", x.ofCrease(0, 4), 0);
        x.press(1);
        Due.due("0 is below 3", x.ofCrease(1, 4), 2);
    }

    private static void goneWithHanging() {
        IronedOut x = chain();
        x.by(Due.text(x, "presses 9;price 1;"));
        Due.due("press(3)", x.press(3), 0);
        Due.due("all but 1", x.of(0, 3), 0);
        Due.due("1 is there", x.of(1, 3), 2);
        Due.due("DEPTH 0", x.ofCrease(2, 2), 0);
        Due.due("one price", x.of(0, 1) * 10 + x.of(1, 1), 506);
        Due.due("book", x.book(-1, 0), 3);
        Due.due("by number", x.book(0, 1), 0);
        Due.due("by number", x.book(1, 1), 2);
        Due.due("the one that is pressed in its place", x.book(2, 1), 3);
        x = chain();
        x.by(Due.text(x, "presses 9;"));
        x.tie(3, 1);
        x.press(0);
        Due.due("it and 2", x.of(0, 3) | x.of(1, 3), 10);
        x.press(1);
        Due.due("of 1 3 goes, and those that are gone don't go again", x.book(-1, 0), 4);
        Due.due("3", x.book(3, 1), 3);
        goneInARound();
    }

    private static void goneInARound() {
        IronedOut x = chain();
        x.by(Due.text(x, "presses 9;"));
        x.tie(3, 2);
        x.press(2);
        Due.due("all but 1", x.of(0, 3) | x.of(1, 3), 2);
        Due.due("book", x.book(-1, 0), 3);
        Due.due("ahead of the one that is pressed", x.book(0, 1), 0);
        Due.due("the one that is pressed, once", x.book(1, 1), 2);
        Due.due("behind it", x.book(2, 1), 3);
        Due.due("once each", x.befell(2, 0), 1);
        x = chain();
        x.by(Due.text(x, "presses 9;"));
        for (int i = 0; i < 29; i += 2) {
            x.press(1);
            x.pattern(1);
        }
        x.press(3);
        Due.due("30 at most", x.book(-1, 0), 30);
        Due.due("by number behind others", x.book(27, 1), 0);
        Due.due("by number behind others", x.book(28, 1), 2);
        Due.due("by number behind others", x.book(29, 1), 3);
    }

    private static void patterns() {
        IronedOut x = chain();
        x.by(Due.text(x, "presses 9;"));
        Due.due("one that is there", x.pattern(0), false);
        Due.due("pattern(-1)", x.pattern(-1), false);
        Due.due("pattern(4)", x.pattern(4), false);
        x.press(3);
        Due.due("2 hangs on 0", x.pattern(2), false);
        Due.due("0 hangs on 3", x.pattern(0), false);
        Due.due("STEPS", x.about(3), 1);
        Due.due("3", x.pattern(3), true);
        Due.due("DEPTH as told", x.ofCrease(3, 2), 8);
        Due.due("2 hangs on 0", x.pattern(2), false);
        Due.due("0", x.pattern(0), true);
        x.by(Due.text(x, "scorches 10;"));
        x.press(3);
        Due.due("on 0 itself, not through it", x.pattern(2), true);
        Due.due("STEPS", x.about(3), 5);
        Due.due("book", x.book(-1, 0), 7);
        Due.due("back", x.book(6, 2), 2);
        Due.due("back", x.book(6, 1), 2);
    }

    private static void damp() {
        IronedOut x = chain();
        Due.due("damp(0)", x.damp(0), -1);
        Due.due("damp(10)", x.damp(10), -1);
        Due.due("damp(-1)", x.damp(-1), -1);
        Due.due("no STEP", x.about(3), 0);
        Due.due("damp(9)", x.damp(9), 0);
        Due.due("a STEP", x.about(3), 1);
        x.by(Due.text(x, "presses 9;"));
        x.press(3);
        x.press(1);
        Due.due("once through: 0 ahead of 3", x.damp(9), 2);
        Due.due("1 and 3", x.of(0, 3) | x.of(1, 3), 10);
        Due.due("DEPTH 1", x.ofCrease(3, 2), 1);
        Due.due("0, then 2", x.damp(9), 2);
        Due.due("DEPTH 1", x.ofCrease(2, 2), 1);
        x.press(3);
        x.press(1);
        Due.due("one at most", x.damp(1), 1);
        Due.due("the lowest", x.of(0, 3) | x.of(1, 3), 2);
    }

    private static void hours() {
        IronedOut x = chain();
        Due.due("hour(0)", x.hour(0), -1);
        Due.due("hour(61)", x.hour(61), -1);
        Due.due("hour(-1)", x.hour(-1), -1);
        x.press(3);
        x.press(3);
        x.by(Due.text(x, "presses 9;"));
        x.press(1);
        Due.due("hour(9)", x.hour(9), 9);
        Due.due("DEPTH", x.ofCrease(3, 2), 4);
        Due.due("hour(1)", x.hour(1), 10);
        Due.due("DEPTH", x.ofCrease(3, 2), 5);
        Due.due("as told", x.ofCrease(2, 2), 7);
        Due.due("gone", x.ofCrease(1, 2), 0);
        Due.due("hour(60)", x.hour(60), 70);
        Due.due("as told at most", x.ofCrease(3, 2), 8);
        Due.due("STEPS", x.about(3), 30);
    }

    private static void foretold() {
        IronedOut x = chain();
        x.press(3);
        x.press(3);
        x.press(3);
        x.hour(5);
        Due.due("foretold(0, 3)", x.foretold(0, 3), -1);
        Due.due("foretold(61, 3)", x.foretold(61, 3), -1);
        Due.due("foretold(1, -1)", x.foretold(1, -1), -1);
        Due.due("foretold(1, 4)", x.foretold(1, 4), -1);
        Due.due("foretold(4, 3)", x.foretold(4, 3), 2);
        Due.due("foretold(5, 3)", x.foretold(5, 3), 3);
        Due.due("foretold(14, 3)", x.foretold(14, 3), 3);
        Due.due("foretold(15, 3)", x.foretold(15, 3), 4);
        Due.due("foretold(60, 3)", x.foretold(60, 3), 8);
        Due.due("foretold(60, 0)", x.foretold(60, 0), 5);
        Due.due("nothing is changed", x.is(0) * 10 + x.ofCrease(3, 2), 52);
        x.press(3);
        Due.due("foretold of one that is gone", x.foretold(60, 3), 0);
    }

    private static void theLastHours() {
        IronedOut x = chain();
        for (int i = 0; i < 166; i++) {
            x.hour(60);
        }
        Due.due("hour(29)", x.hour(29), 9989);
        x.press(3);
        Due.due("hour(11)", x.hour(11), -1);
        Due.due("hour(1)", x.hour(1), 9990);
        Due.due("DEPTH", x.ofCrease(3, 2), 7);
        x.press(3);
        Due.due("foretold(60, 3)", x.foretold(60, 3), 5);
        Due.due("hour(10)", x.hour(10), -1);
        Due.due("hour(9)", x.hour(9), 9999);
        Due.due("DEPTH", x.ofCrease(3, 2), 5);
        Due.due("foretold(1, 3)", x.foretold(1, 3), 5);
        Due.due("STEPS", x.about(3), 30);
    }

    private static void book() {
        IronedOut x = chain();
        x.by(Due.text(x, "presses 9;"));
        Due.due("book(0, 0) of none", x.book(0, 0), -2);
        x.hour(3);
        x.press(1);
        x.hour(4);
        x.pattern(1);
        Due.due("two", x.book(-1, 0), 2);
        Due.due("HOUR", x.book(0, 0), 3);
        Due.due("CREASE", x.book(0, 1), 1);
        Due.due("gone", x.book(0, 2), 0);
        Due.due("HOUR", x.book(1, 0), 7);
        Due.due("back", x.book(1, 2), 2);
        Due.due("what 3", x.book(0, 3), -2);
        Due.due("what -1", x.book(0, -1), -2);
        Due.due("book(2, 0)", x.book(2, 0), -2);
        Due.due("book(-2, 0)", x.book(-2, 0), -2);
        x.by(Due.text(x, "scorches 10;"));
        x.press(0);
        Due.due("scorched", x.book(2, 2), 1);
        Due.due("befell(-1, 0)", x.befell(-1, 0), 1);
        Due.due("befell(1, 0)", x.befell(1, 0), 1);
        Due.due("befell(0, 0)", x.befell(0, 0), 0);
        Due.due("befell(0, 1)", x.befell(0, 1), 1);
        Due.due("befell(1, 2)", x.befell(1, 2), 1);
        Due.due("befell(0, 3)", x.befell(0, 3), -2);
        Due.due("befell(0, -1)", x.befell(0, -1), -2);
        Due.due("befell(-1, 3)", x.befell(-1, 3), -2);
        Due.due("befell(4, 0)", x.befell(4, 0), -2);
        Due.due("befell(-2, 0)", x.befell(-2, 0), -2);
        x.by(0);
        for (int i = 0; i < 13; i++) {
            x.hour(1);
            x.press(1);
            x.pattern(1);
        }
        Due.due("29", x.book(-1, 0), 29);
        x.hour(1);
        x.press(1);
        Due.due("30", x.book(-1, 0), 30);
        Due.due("the eldest", x.book(0, 0), 3);
        x.hour(1);
        x.pattern(1);
        Due.due("30 yet", x.book(-1, 0), 30);
        Due.due("the eldest is another", x.book(0, 0), 7);
        Due.due("the latest", x.book(29, 0), 22);
        Due.due("the latest", x.book(29, 2), 2);
        Due.due("befell the latest 30", x.befell(-1, 2), 15);
        x.undo();
        Due.due("the book as ahead of it", x.book(0, 0), 3);
        Due.due("the book as ahead of it", x.book(29, 2), 0);
    }

    private static void undone() {
        IronedOut x = chain();
        Due.due("none", x.undo(), -1);
        x.press(3);
        x.by(Due.text(x, "presses 9;price 11;"));
        x.heat(2);
        x.press(3);
        x.tie(1, 3);
        x.pattern(3);
        x.damp(9);
        x.hour(2);
        x.seasons(5, 3);
        Due.due("STEPS", x.about(3), 7);
        Due.due("SEASONS", x.undo(), 6);
        Due.due("HOUR", x.is(0), 2);
        Due.due("X", x.is(2), 27282);
        x.undo();
        Due.due("one HOUR", x.is(0), 1);
        x.undo();
        Due.due("DAMP", x.undo(), 3);
        Due.due("there", x.of(0, 3) | x.of(1, 3), 10);
        Due.due("BACK", x.undo(), 2);
        Due.due("there", x.of(0, 3) | x.of(1, 3), 2);
        Due.due("book", x.book(-1, 0), 3);
        Due.due("PRESSED", x.undo(), 1);
        Due.due("there", x.of(0, 3) | x.of(1, 3), 15);
        Due.due("DEPTH", x.ofCrease(3, 2), 6);
        Due.due("DEPTH", x.ofCrease(0, 2), 5);
        Due.due("COINS", x.of(1, 1), 1);
        Due.due("X", x.is(2), 6230);
        Due.due("book", x.book(-1, 0), 0);
        Due.due("PRESSED", x.undo(), 0);
        Due.due("COINS", x.of(1, 1), 7);
        Due.due("X", x.is(2), 167);
        Due.due("none", x.undo(), -1);
        Due.due("HEAT stays", x.is(1), 2);
        Due.due("TIES stay", x.hanging(3), 15);
        Due.due("THE TEXT stays", x.about(2), 0);
    }

    private static void undoneThirtyTimes() {
        IronedOut x = chain();
        x.press(3);
        x.hour(40);
        Due.due("30 at most", x.about(3), 30);
        for (int i = 29; i >= 0; i--) {
            Due.due("undo", x.undo(), i);
            Due.due("HOUR", x.is(0), 10 + i);
        }
        Due.due("none", x.undo(), -1);
        Due.due("HOUR", x.is(0), 10);
        x.hour(5);
        Due.due("STEPS", x.about(3), 5);
        Due.due("undo", x.undo(), 4);
        Due.due("HOUR", x.is(0), 14);
    }

    private static void toldSince() {
        IronedOut x = chain();
        x.press(1);
        x.person(2, 77);
        x.crease(2, 3, 4, 1);
        x.crease(2, 5, 1, 1);
        x.press(4);
        x.press(5);
        Due.due("COINS", x.of(2, 1), 74);
        x.undo();
        Due.due("there again", x.ofCrease(5, 4), 0);
        x.undo();
        x.undo();
        Due.due("PERSONS", x.about(0), 3);
        Due.due("CREASES", x.is(3), 6);
        Due.due("COINS", x.of(2, 1), 77);
        Due.due("DEPTH", x.ofCrease(4, 2), 4);
        Due.due("DEPTH", x.ofCrease(5, 2), 1);
        Due.due("there", x.of(2, 3), 48);
        Due.due("DEPTH", x.ofCrease(1, 2), 6);
    }

    private static void seasons() {
        IronedOut x = chain();
        Due.due("seed -1", x.seasons(-1, 1), -1);
        Due.due("seed 10000", x.seasons(10000, 1), -1);
        Due.due("n 0", x.seasons(0, 0), -1);
        Due.due("n 41", x.seasons(0, 41), -1);
        Due.due("no STEP", x.about(3), 0);
        Due.due("X", x.is(2), 167);
        // 167: an HOUR. 6230: 2, PRESSED, CREASE 2 (27282 draws 2, then X is 18141). 18141: 3, BACK of CREASE 1.
        Due.due("seasons(0, 1)", x.seasons(0, 1), 1);
        Due.due("X", x.is(2), 6230);
        Due.due("seasons(0, 2)", x.seasons(0, 2), 2);
        Due.due("DEPTH", x.ofCrease(2, 2), 5);
        Due.due("X", x.is(2), 18141);
        Due.due("STEPS", x.about(3), 2);
        Due.due("seasons(0, 3)", x.seasons(0, 3), 3);
        Due.due("DEPTH", x.ofCrease(2, 2), 3);
        Due.due("X", x.is(2), next(18141));
        x = chain();
        Due.due("the most", x.seasons(9999, 40) >= 0, true);
        Due.due("one STEP", x.undo(), 0);
        Due.due("X", x.is(2), 167);
        Due.due("book", x.book(-1, 0), 0);
        // 171: 3, BACK of CREASE 3.
        x = chain();
        x.by(Due.text(x, "presses 9;"));
        x.press(3);
        Due.due("BACK", x.seasons(2, 1), 0);
        Due.due("there", x.ofCrease(3, 4), 0);
        Due.due("DEPTH as told", x.ofCrease(3, 2), 8);
        Due.due("X", x.is(2), next(171));
        Due.due("BACK can't be", x.seasons(2, 1), 0);
        Due.due("STEPS", x.about(3), 3);
        x.press(3);
        // 169 is 1, CREASE 1: PRESSED and gone.
        x.seasons(1, 1);
        Due.due("PRESSED", x.ofCrease(1, 4), 1);
        Due.due("X, a draw behind", x.is(2), next(next(169)));
        x.seasons(1, 1);
        Due.due("can't be PRESSED: no draw", x.is(2), next(169));
        backNoMore();
        damped();
    }

    /** 177, SEED 5: 3, of twelve CREASES it is BACK of 9; of one CREASE the one. */
    private static void backNoMore() {
        IronedOut x = new IronedOut();
        x.person(0, 0);
        x.crease(0, 5, 5, 1);
        Due.due("one that is there", x.seasons(5, 1), 0);
        Due.due("nothing is written", x.book(-1, 0), 0);
        // 169, SEED 1: 1, PRESSED.
        x.seasons(1, 1);
        Due.due("the one CREASE is PRESSED", x.ofCrease(0, 2), 3);
        Due.due("X", x.is(2), next(next(169)));
        x.press(0);
        x.press(0);
        x.seasons(5, 1);
        Due.due("DEPTH as told", x.ofCrease(0, 2), 5);
    }

    /** SEED by SEED until DAMP by 1 is the second season, behind an HOUR. */
    private static void damped() {
        int tried = 0;
        for (int seed = 0; seed < 300; seed++) {
            int first = seed * 2 + 167;
            int second = next(first);
            if (first % 6 != 5 || second % 6 != 4) {
                continue;
            }
            tried++;
            IronedOut x = chain();
            x.by(Due.text(x, "presses 9;"));
            x.press(1);
            x.press(3);
            Due.due("HOUR", x.seasons(seed, 2), 1);
            Due.due("DAMP by 1", x.of(0, 3) | x.of(1, 3), 2);
            Due.due("DEPTH 1", x.ofCrease(1, 2), 1);
            Due.due("X", x.is(2), next(second));
        }
        Due.due("DAMP was tried", tried > 0, true);
    }

    private static int next(int x) {
        return (x * 401 + 281) % 30509;
    }

    private static void seasonsWithoutCreases() {
        IronedOut x = new IronedOut();
        int at = 7 * 2 + 167;
        int hours = 0;
        for (int i = 0; i < 40; i++) {
            hours += at % 6 == 5 ? 1 : 0;
            at = next(at);
        }
        Due.due("HOURS alone", x.seasons(7, 40), hours);
        Due.due("X", x.is(2), at);
        Due.due("STEPS", x.about(3), 1);
        Due.due("undo", x.undo(), 0);
        Due.due("HOUR", x.is(0), 0);
    }

    private static void seasonsAtTheEnd() {
        IronedOut x = new IronedOut();
        for (int i = 0; i < 166; i++) {
            x.hour(60);
        }
        x.hour(38);
        Due.due("9998", x.is(0), 9998);
        Due.due("one passes", x.seasons(0, 1), 9999);
        Due.due("none passes", x.seasons(0, 40), 9999);
        Due.due("a STEP", x.undo(), 29);
        Due.due("a STEP", x.undo(), 28);
        Due.due("HOUR", x.is(0), 9998);
    }
}
