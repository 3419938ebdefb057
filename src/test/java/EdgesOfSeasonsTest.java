/**
 * The edges of promises 16, 43 and 44, and of the terms of part V behind them: a test a sentence, which stands on top of
 * it.
 */
public final class EdgesOfSeasonsTest {
    private static final int HOURS = 5;

    public static void main(String[] args) {
        seasonsOfOthers();
        xAtTheEnds();
        xWrapsAround();
        theCreaseOfX();
        pressedByThree();
        pressedIfItCanBe();
        backIfItCanBe();
        dampByOne();
        hourIfItCanPass();
        seasonsWithoutCreases();
        seasonsAreOneStep();
        seasonsAsByHand();
        imageOfNothing();
        imageOfAll();
        imageButTheTapeAndTheFault();
        imageStays();
        imageOfSteps();
        imageOfTexts();
        imageOfFullLists();
        imageAnew();
        Due.finish();
    }

    private static int next(int x) {
        return (int) ((x * 401L + 281) % 30509);
    }

    /** The seed by which the first season is an HOUR, and the second has an x that is so by 6 and by creases. */
    private static int seedOf(int bySix, int creases, int crease) {
        for (int seed = 0; seed <= 9999; seed++) {
            int first = seed * 2 + 167;
            int second = next(first);
            if (first % 6 == HOURS && second % 6 == bySix && second % creases == crease) {
                return seed;
            }
        }
        Due.due("a seed of " + bySix + " and " + crease, false, true);
        return 0;
    }

    /** As many CREASES, of DEPTHS 3 .. 9; each that is told hangs on none. */
    private static IronedOut creases(int n) {
        IronedOut x = new IronedOut();
        x.person(0, 500);
        for (int i = 0; i < n; i++) {
            x.crease(0, i, 3 + i % 7, 0);
        }
        return x;
    }

    private static IronedOut some() {
        IronedOut x = creases(5);
        x.heat(9);
        x.press(0);
        x.press(1);
        x.hour(12);
        x.tie(3, 2);
        x.by(Due.text(x, "presses 3; scorches 1; heat 1;"));
        x.want(1, 1);
        x.image();
        x.press(4);
        Due.text(x, "heat 77;");
        Due.tape(x, "heat 7;");
        return x;
    }

    // Promise 16: "HOUR. NONE for others."; "SEED (0 .. 9999)", "n times (1 .. 40)".
    private static void seasonsOfOthers() {
        Twins.taken("seed", EdgesOfSeasonsTest::some, (x, seed) -> x.seasons(seed, 1), -1, 0, 9999);
        Twins.refused("seed", EdgesOfSeasonsTest::some, (x, seed) -> x.seasons(seed, 1), -1, -1, 10000);
        Twins.taken("n", EdgesOfSeasonsTest::some, (x, n) -> x.seasons(0, n), -1, 1, 40);
        Twins.refused("n", EdgesOfSeasonsTest::some, (x, n) -> x.seasons(0, n), -1, -1, 0, 41);
    }

    // "X is SEED (0 .. 9999) * 2 + 167": whatever X was; "then X is anew (as in a draw)".
    private static void xAtTheEnds() {
        for (int seed : new int[] {0, 1, 9998, 9999}) {
            IronedOut x = new IronedOut();
            for (int i = 0; i < 2; i++) {
                x.seasons(seed, 1);
                Due.due("X behind one season", x.is(2), next(seed * 2 + 167));
            }
            int at = seed * 2 + 167;
            for (int i = 0; i < 40; i++) {
                at = next(at);
            }
            x.seasons(seed, 40);
            Due.due("X behind forty", x.is(2), at);
        }
        Due.due("of the least SEED", next(167), 6230);
        Due.due("of the greatest", next(20165), 1561);
    }

    // "(X * 401 + 281) mod 30509": 0, and 30508, come to by seasons.
    private static void xWrapsAround() {
        int[][] due = {{0, 281}, {30508, 30389}, {75, 30356}, {76, 248}};
        for (int[] d : due) {
            int found = 0;
            for (int seed = 0; seed <= 9999 && found < 3; seed++) {
                int at = seed * 2 + 167;
                for (int n = 1; n < 40 && found < 3; n++) {
                    at = next(at);
                    if (at == d[0]) {
                        found++;
                        IronedOut x = new IronedOut();
                        x.seasons(seed, n);
                        Due.due("X", x.is(2), d[0]);
                        x.seasons(seed, n + 1);
                        Due.due("X behind it", x.is(2), d[1]);
                    }
                }
            }
            Due.due("come to", found > 0, true);
        }
    }

    // "of the CREASE x mod how many there are": one, two, twelve; the first, the last.
    private static void theCreaseOfX() {
        for (int n : new int[] {1, 2, 3, 11, 12}) {
            for (int crease = 0; crease < n; crease++) {
                int bySix = seedBySix(n, crease);
                if (bySix > 2) {
                    continue;
                }
                IronedOut x = creases(n);
                x.by(Due.text(x, "presses 1; scorches 0;"));
                x.seasons(seedOf(bySix, n, crease), 2);
                for (int i = 0; i < n; i++) {
                    Due.due("of " + n + " it is " + crease + ": DEPTH of " + i, x.ofCrease(i, 2),
                        3 + i % 7 - (i == crease ? 1 : 0));
                }
            }
        }
    }

    /** What x is by 6 tells what it is by 2, 3 and 12 in part; of the three that press one that can be so, or 3. */
    private static int seedBySix(int creases, int crease) {
        for (int bySix = 0; bySix <= 2; bySix++) {
            for (int seed = 0; seed <= 9999; seed++) {
                int second = next(seed * 2 + 167);
                if ((seed * 2 + 167) % 6 == HOURS && second % 6 == bySix && second % creases == crease) {
                    return bySix;
                }
            }
        }
        return 3;
    }

    // "x mod 6: 0, 1, 2 it is PRESSED": it draws as by hand.
    private static void pressedByThree() {
        for (int bySix = 0; bySix <= 2; bySix++) {
            IronedOut x = creases(1);
            int seed = seedOf(bySix, 1, 0);
            Due.due("an HOUR, then PRESSED", x.seasons(seed, 2), 1);
            Due.due("DEPTH", x.ofCrease(0, 2), 1);
            Due.due("COINS", x.of(0, 1), 499);
            Due.due("X is drawn twice behind it", x.is(2), next(next(next(seed * 2 + 167))));
            for (int draw = 0; draw <= 1; draw++) {
                int drawn = next(next(seed * 2 + 167)) % 10;
                x = creases(1);
                x.by(Due.text(x, "presses 0; scorches " + (drawn + draw) + ";"));
                x.seasons(seed, 2);
                Due.due("scorched by a draw below", x.ofCrease(0, 4), draw * 2);
            }
        }
    }

    // "(each if it can be)": what is gone or scorched isn't PRESSED: no draw, no price.
    private static void pressedIfItCanBe() {
        for (int bySix = 0; bySix <= 2; bySix++) {
            int seed = seedOf(bySix, 1, 0);
            for (String laws : new String[] {"presses 9; scorches 0; price 1;", "scorches 10; price 1;"}) {
                IronedOut x = creases(1);
                x.by(Due.text(x, laws));
                x.press(0);
                x.seasons(seed, 2);
                Due.due("X", x.is(2), next(next(seed * 2 + 167)));
                Due.due("COINS", x.of(0, 1), 499);
                Due.due("BOOK", x.book(-1, 0), 1);
            }
        }
    }

    // "3 it is BACK (each if it can be)".
    private static void backIfItCanBe() {
        int seed = seedOf(3, 1, 0);
        IronedOut x = creases(1);
        x.seasons(seed, 2);
        Due.due("one that is there", x.book(-1, 0), 0);
        x.by(Due.text(x, "presses 9; scorches 0;"));
        x.press(0);
        x.seasons(seed, 2);
        Due.due("one that is gone", x.ofCrease(0, 4), 0);
        Due.due("DEPTH as told", x.ofCrease(0, 2), 3);
        Due.due("X", x.is(2), next(next(seed * 2 + 167)));
        x.by(Due.text(x, "scorches 10;"));
        x.press(0);
        x.seasons(seed, 2);
        Due.due("one that is scorched", x.ofCrease(0, 4), 2);
        x = creases(2);
        x.tie(1, 0);
        x.by(Due.text(x, "presses 9; scorches 0;"));
        x.press(0);
        seed = seedOf(3, 2, 1);
        x.seasons(seed, 2);
        Due.due("1 hangs on one that is gone", x.of(0, 3), 0);
        x.pattern(0);
        x.seasons(seed, 2);
        Due.due("it is there", x.of(0, 3), 3);
    }

    // "4 DAMP by 1": of whatever CREASE x is, the lowest that may come back.
    private static void dampByOne() {
        for (int crease = 0; crease < 5; crease++) {
            IronedOut x = creases(5);
            x.by(Due.text(x, "presses 9; scorches 0;"));
            x.press(4);
            x.press(2);
            int seed = seedOf(4, 5, crease);
            x.seasons(seed, 2);
            Due.due("2 alone", x.of(0, 3), 15);
            Due.due("DEPTH 1", x.ofCrease(2, 2), 1);
            x.seasons(seed, 2);
            Due.due("4", x.of(0, 3), 31);
            x.seasons(seed, 2);
            Due.due("none may", x.book(-1, 0), 4);
        }
    }

    // "5 an HOUR (if it can pass)".
    private static void hourIfItCanPass() {
        IronedOut x = creases(1);
        int text = Due.text(x, "hour 60;".repeat(24));
        for (int i = 0; i < 6; i++) {
            x.played(text);
        }
        for (int i = 0; i < 22; i++) {
            x.hour(60);
        }
        x.hour(38);
        Due.due("9998", x.is(0), 9998);
        Due.due("the last", x.seasons(0, 1), 9999);
        Due.due("none can pass", x.seasons(0, 1), 9999);
        Due.due("X is anew", x.is(2), next(167));
        Due.due("SEASONS go on", x.seasons(seedOf(1, 1, 0), 2), 9999);
        Due.due("PRESSED at 9999", x.ofCrease(0, 2), 1);
    }

    // "Without CREASES all but HOURS are nothing."
    private static void seasonsWithoutCreases() {
        for (int seed : new int[] {0, 1, 2, 777, 9999}) {
            int at = seed * 2 + 167;
            int hours = 0;
            for (int i = 0; i < 40; i++) {
                hours += at % 6 == HOURS ? 1 : 0;
                at = next(at);
            }
            IronedOut x = new IronedOut();
            Due.due("HOURS alone", x.seasons(seed, 40), hours);
            Due.due("X", x.is(2), at);
            Due.due("BOOK", x.book(-1, 0), 0);
            Due.due("a STEP", x.about(3), 1);
            Due.due("taken back", x.undo(), 0);
            Twins.alike("SEASONS taken back", x, new IronedOut());
        }
    }

    // "It is one STEP".
    private static void seasonsAreOneStep() {
        for (int n : new int[] {1, 2, 40}) {
            IronedOut x = some();
            int steps = x.about(3);
            x.seasons(4321, n);
            Due.due("one STEP", x.about(3), steps + 1);
            Due.due("taken back", x.undo(), steps);
            Twins.alike("SEASONS taken back", x, some());
        }
        IronedOut x = creases(1);
        x.hour(30);
        x.seasons(5, 40);
        Due.due("30 yet", x.about(3), 30);
        Due.due("taken back", x.undo(), 29);
        Due.due("HOUR", x.is(0), 30);
    }

    // Seasons do what is done by hand: where no draw is asked for, all is the same.
    private static void seasonsAsByHand() {
        for (int seed = 0; seed < 200; seed++) {
            IronedOut by = creases(4);
            IronedOut hand = creases(4);
            for (IronedOut x : new IronedOut[] {by, hand}) {
                x.tie(3, 1);
                x.by(Due.text(x, "presses 4; scorches 0; price 0;"));
            }
            by.seasons(seed, 12);
            int at = seed * 2 + 167;
            for (int i = 0; i < 12; i++) {
                int x = at;
                at = next(at);
                int crease = x % 4;
                if (x % 6 <= 2) {
                    at = hand.press(crease) >= 0 ? next(at) : at;
                } else if (x % 6 == 3) {
                    hand.pattern(crease);
                } else if (x % 6 == 4) {
                    hand.damp(1);
                } else {
                    hand.hour(1);
                }
            }
            Due.due("HOUR", by.is(0), hand.is(0));
            Due.due("X", by.is(2), at);
            Due.due("BOOK", by.book(-1, 0), hand.book(-1, 0));
            for (int i = 0; i < 4; i++) {
                Due.due("DEPTH", by.ofCrease(i, 2), hand.ofCrease(i, 2));
                Due.due("how it is", by.ofCrease(i, 4), hand.ofCrease(i, 4));
            }
        }
    }

    // Promises 43, 44: HOUR; of a new object, too.
    private static void imageOfNothing() {
        Due.due("image()", new IronedOut().image(), 0);
        Due.due("back()", new IronedOut().back(), 0);
        Twins.leaves("image() of a new object", IronedOut::new, IronedOut::image, 0);
        IronedOut x = some();
        x.back();
        Due.due("image()", x.image(), 12);
        Due.due("back()", x.back(), 12);
    }

    /** All that can be changed is changed. */
    private static void change(IronedOut x) {
        x.person(2, 7);
        x.crease(1, 50, 5, 5);
        x.tie(0, 4);
        x.heat(3);
        x.by(Due.text(x, "presses 9; price 1;"));
        x.press(2);
        x.pattern(0);
        x.damp(9);
        x.hour(45);
        x.seasons(123, 40);
        x.undo();
        x.want(0, 1);
        x.board(4);
        x.seam(1, 2, 3);
        x.heir(5);
        x.offer(6);
        x.priced(0, 7);
    }

    // "AN IMAGE: all as it is .. BACK to it: all is so again."
    private static void imageOfAll() {
        IronedOut x = some();
        x.image();
        change(x);
        Due.tape(x, "heat 7;");
        Due.due("back()", x.back(), 12);
        IronedOut y = some();
        y.image();
        Due.text(y, "!");
        Due.tape(y, "heat 7;");
        x.text();
        y.text();
        Twins.alike("all is so again", x, y);
    }

    // "but the tape and the latest FAULT".
    private static void imageButTheTapeAndTheFault() {
        IronedOut x = some();
        x.image();
        Due.text(x, "heat 10;");
        Due.tape(x, "hour 3; hour");
        x.back();
        Due.due("FAULT", x.fault(0), 2);
        Due.due("place", x.fault(1), 5);
        Due.due("the tape", x.about(9), 12);
        x.end(7);
        Due.due("it is read", x.text(), 1);
        Due.due("played", x.played(1), -1);
        Due.due("HOUR", x.is(0), 15);
        x.back();
        Due.due("FAULT: none", x.fault(0), 0);
        Due.due("the tape is empty", x.about(9), 0);
        x = new IronedOut();
        x.back();
        Due.due("ahead of any", x.fault(0), -1);
    }

    // Promise 44: "(it stays)".
    private static void imageStays() {
        IronedOut x = some();
        x.image();
        for (int i = 0; i < 3; i++) {
            change(x);
            Due.due("back()", x.back(), 12);
            Due.due("PERSONS", x.about(0), 1);
            Due.due("CREASES", x.is(3), 5);
            Due.due("DEPTH", x.ofCrease(4, 2), 4);
        }
        Twins.leaves("back() twice", () -> {
            IronedOut y = some();
            y.back();
            return y;
        }, IronedOut::back, 12);
    }

    // STEPS are in it: none, and 30.
    private static void imageOfSteps() {
        IronedOut x = creases(2);
        x.image();
        x.hour(60);
        x.back();
        Due.due("none", x.undo(), -1);
        x.hour(31);
        x.image();
        for (int i = 0; i < 30; i++) {
            x.undo();
        }
        x.press(0);
        x.damp(1);
        Due.due("back()", x.back(), 31);
        for (int i = 29; i >= 0; i--) {
            Due.due("taken back", x.undo(), i);
            Due.due("HOUR", x.is(0), 1 + i);
        }
        Due.due("none", x.undo(), -1);
        Due.due("back()", x.back(), 31);
        Due.due("30 again", x.about(3), 30);
    }

    // TEXTS are in it: a number that is free again is told anew.
    private static void imageOfTexts() {
        IronedOut x = creases(1);
        Due.text(x, "price 1;");
        x.image();
        for (int i = 0; i < 2; i++) {
            for (int text = 1; text <= 3; text++) {
                Due.due("a TEXT", Due.text(x, "price " + (text * 10 + i) + ";"), text);
            }
            Due.due("a fifth", x.text(), -1);
            x.by(3);
            Due.due("the fourth", x.ofCrease(0, 8), 30 + i);
            x.back();
            Due.due("TEXTS", x.about(1), 1);
            Due.due("THE TEXT", x.about(2), -1);
            x.by(0);
            Due.due("the first yet", x.ofCrease(0, 8), 1);
        }
        for (int text = 1; text <= 3; text++) {
            Due.text(x, "price " + text + "00;");
        }
        x.by(3);
        x.image();
        Due.text(x, "price 4;");
        x.back();
        Due.due("four are in it", x.about(1), 4);
        Due.due("the fourth rules", x.ofCrease(0, 8), 300);
    }

    // WANTED, WORK, SEAMS, NEPHEWS, OFFERS, PAID are in it: full.
    private static void imageOfFullLists() {
        IronedOut x = creases(1);
        x.image();
        for (int i = 0; i < 8; i++) {
            x.want(0, 1);
            x.board(1 + i);
            x.seam(0, 99, 3);
            x.heir(1 + i);
            x.offer(100 + i);
            x.priced(0, 3);
        }
        Due.text(x, "");
        Due.due("back to none", x.back(), 0);
        int[] none = {1, 0, -1, 0, 0, 0, 0, 0, 0};
        for (int what = 0; what <= 8; what++) {
            Due.due("about, " + what, x.about(what), none[what]);
        }
        for (int i = 0; i < 8; i++) {
            x.want(0, i % 2);
            x.board(8 - i);
            x.seam(0, 99, 3);
            x.heir(Math.max(1, 6 - i));
            x.offer(200 + i);
            x.priced(0, 3);
        }
        Due.text(x, "");
        x.image();
        x.want(-1, 0);
        x.board(-1);
        x.seam(-1, 0, 0);
        x.heir(-1);
        x.offer(-1);
        x.priced(-1, 0);
        for (int i = 0; i < 8; i++) {
            x.want(0, 0);
            x.board(99);
            x.seam(50, 60, 7);
            x.heir(999);
            x.offer(1);
            x.priced(0, 9);
        }
        x.back();
        int[] full = {1, 1, -1, 0, 8, 8, 8, 6, 8};
        for (int what = 0; what <= 8; what++) {
            Due.due("about, " + what, x.about(what), full[what]);
        }
        Due.due("a ninth that is PAID", x.priced(0, 3), -2);
        Due.due("the latest WANTED", x.cut(false), 1);
        Due.due("36 on one hand", x.hands(1, -1), 36);
        Due.due("SURE", x.sets(0, 1), 1);
        Due.due("the first of six", x.laughs(21, false, 0), 6);
        Due.due("takings", x.price(true), 1600);
        Due.due("whose", x.whose(), 1);
    }

    // Promise 43: "THE IMAGE is as all is now": the earlier one is no more.
    private static void imageAnew() {
        IronedOut x = creases(2);
        x.image();
        x.hour(5);
        x.image();
        x.hour(5);
        Due.due("back()", x.back(), 5);
        Due.due("back()", x.back(), 5);
        x.undo();
        Due.due("image()", x.image(), 4);
        x.hour(1);
        Due.due("back()", x.back(), 4);
        Due.due("STEPS", x.about(3), 4);
    }
}
