/**
 * The edges of promises 24 to 38, and of the terms of parts III and IV behind them: a test a sentence, which stands on
 * top of it.
 */
public final class EdgesOfAskingTest {
    public static void main(String[] args) {
        askedChangesNothing();
        eightWanted();
        wantOfOthers();
        wantNoneAnyMore();
        theLatestOfOneHolds();
        cutOfNothing();
        cutOfThoseThere();
        cutWithAllHanging();
        cutOfThoseToGoIfThere();
        cutNone();
        cutLeastWorth();
        cutFewest();
        eightAtWork();
        boardOfOthers();
        boardNoneAnyMore();
        handsOfOthers();
        handsOfNoWork();
        handsOfOneAndFour();
        handsLowest();
        flatOfOthers();
        flatOfK();
        flatOfW();
        flatOfThoseThere();
        flatLowestSet();
        eightSeams();
        seamOfOthers();
        seamNoneAnyMore();
        setsOfOthers();
        setsWithoutSeams();
        setsAtTheEnds();
        setsWithoutAny();
        setsOfAPersonWithoutCreases();
        setsDepthsAsTold();
        nextOfOthers();
        nextNone();
        nextOfLikeOnes();
        sixNephews();
        heirOfOthers();
        heirNoneAnyMore();
        laughsOfOthers();
        laughsOfNone();
        laughsAtMost();
        laughsLeftOver();
        laughsByTurns();
        eightOffers();
        offerOfOthers();
        offerNoneAnyMore();
        priceOfNone();
        priceAtTheEnds();
        priceLeastOfLikeOnes();
        wronglyOfOthers();
        wronglyAtTheEnds();
        wronglyMoreThanLaid();
        wronglyInLowestTerms();
        eightPaid();
        pricedOfOthers();
        pricedNoneAnyMore();
        whoseOfNone();
        whoseAtTheEnds();
        whoseAsNow();
        Due.finish();
    }

    private static IronedOut persons() {
        IronedOut x = new IronedOut();
        x.person(0, 100);
        x.person(0, 100);
        return x;
    }

    private static IronedOut creases(int[]... told) {
        IronedOut x = persons();
        for (int[] c : told) {
            x.crease(c[0], c[1], c[2], c[3]);
        }
        x.by(Due.text(x, "presses 9; scorches 0; price 0;"));
        return x;
    }

    /** Three CREASES, the middle one gone, and two of each that can be told. */
    private static IronedOut some() {
        IronedOut x = creases(new int[] {0, 10, 3, 2}, new int[] {0, 20, 4, -1}, new int[] {1, 30, 5, 3});
        x.tie(2, 0);
        x.press(1);
        for (int i = 0; i < 2; i++) {
            x.want(i, i);
            x.board(3 + i);
            x.seam(10 * i, 10 + 10 * i, 3);
            x.heir(2 + i);
            x.offer(4 + i);
            x.priced(i, 0);
        }
        return x;
    }

    private static IronedOut full() {
        IronedOut x = creases(new int[] {0, 10, 3, 2}, new int[] {0, 20, 4, -1}, new int[] {1, 30, 5, 3});
        for (int i = 0; i < 8; i++) {
            x.want(i % 3, i / 4);
            x.board(1 + i % 3);
            x.seam(0, 9, 0);
            x.heir(1 + i);
            x.offer(i);
            x.priced(i % 3, 0);
        }
        return x;
    }

    // "All that follows changes nothing."
    private static void askedChangesNothing() {
        Twins.leaves("cut", EdgesOfAskingTest::some, x -> x.cut(false), 0);
        Twins.leaves("cut", EdgesOfAskingTest::some, x -> x.cut(true), 0);
        Twins.leaves("hands", EdgesOfAskingTest::some, x -> x.hands(2, 1), 1);
        Twins.leaves("flat", EdgesOfAskingTest::some, x -> x.flat(0, 1, 100), 1);
        Twins.leaves("sets", EdgesOfAskingTest::some, x -> x.sets(0, 0), 1);
        Twins.leaves("next", EdgesOfAskingTest::some, x -> x.next(0), -1);
        Twins.leaves("laughs", EdgesOfAskingTest::some, x -> x.laughs(99, true, 1), 59);
        Twins.leaves("price", EdgesOfAskingTest::some, x -> x.price(true), 8);
        Twins.leaves("wrongly", EdgesOfAskingTest::some, x -> x.wrongly(1, 1, 5, 0, true), 2);
        Twins.leaves("whose", EdgesOfAskingTest::some, IronedOut::whose, 1);
    }

    // "WANTED (8 at most"; promise 24: "-2 .. if there are 8."
    private static void eightWanted() {
        IronedOut x = creases(new int[] {0, 1, 1, 1});
        for (int i = 1; i <= 8; i++) {
            Due.due("WANTED", x.want(0, 1), i);
            Due.due("WANTED", x.about(4), i);
        }
        Twins.leaves("a ninth", EdgesOfAskingTest::full, y -> y.want(0, 1), -2);
    }

    // Promise 24: "go 1, stay 0. -2 for others".
    private static void wantOfOthers() {
        Twins.taken("crease", EdgesOfAskingTest::some, (x, i) -> x.want(i, 1), -2, -1, 0, 2);
        Twins.refused("crease", EdgesOfAskingTest::some, (x, i) -> x.want(i, 1), -2, -2, 3, 11, 12);
        Twins.refused("crease of none", EdgesOfAskingTest::persons, (x, i) -> x.want(i, 1), -2, -2, 0);
        Twins.taken("go", EdgesOfAskingTest::some, (x, go) -> x.want(0, go), -2, 0, 1);
        Twins.refused("go", EdgesOfAskingTest::some, (x, go) -> x.want(0, go), -2, -1, 2);
    }

    // Promise 24: "(crease NONE: none any more)".
    private static void wantNoneAnyMore() {
        Due.due("of none", new IronedOut().want(-1, 0), 0);
        IronedOut x = full();
        Due.due("of eight", x.want(-1, 1), 0);
        Due.due("WANTED", x.about(4), 0);
        Due.due("the first again", x.want(0, 1), 1);
        Due.due("the other arguments aren't looked at", x.want(-1, 2), 0);
        Due.due("nothing is WANTED: WORTH below 0 goes", x.cut(false), 2);
    }

    // "the latest of one holds".
    private static void theLatestOfOneHolds() {
        for (int latest = 0; latest <= 1; latest++) {
            IronedOut x = creases(new int[] {0, 1, 1, 5}, new int[] {0, 1, 1, -5});
            for (int i = 0; i < 7; i++) {
                x.want(i % 2, i / 2 % 2);
            }
            Due.due("eight", x.want(1, latest), 8);
            x.want(-1, 0);
            x.want(1, 1 - latest);
            x.want(0, 1);
            x.want(1, latest);
            x.want(0, 0);
            Due.due("the latest", x.cut(false), latest * 2);
        }
    }

    // Without CREASES, or WANTED, the empty set will do.
    private static void cutOfNothing() {
        IronedOut x = new IronedOut();
        Due.due("without CREASES", x.cut(false), 0);
        Due.due("WORTH", x.cut(true), 0);
        x = creases(new int[] {0, 1, 1, 1}, new int[] {0, 1, 1, 0});
        Due.due("without WANTED", x.cut(false), 0);
        x.want(0, 0);
        x.want(1, 0);
        Due.due("all stay", x.cut(false), 0);
        Due.due("WORTH", x.cut(true), 0);
    }

    // "a set of CREASES that are there".
    private static void cutOfThoseThere() {
        IronedOut x = creases(new int[] {0, 1, 1, -9}, new int[] {0, 1, 1, -9}, new int[] {0, 1, 1, -9});
        Due.due("all three", x.cut(false), 7);
        x.press(0);
        Due.due("gone", x.cut(false), 6);
        x.by(Due.text(x, "scorches 10;"));
        x.press(2);
        Due.due("scorched", x.cut(false), 2);
        Due.due("WORTH", x.cut(true), -9);
        x.press(1);
        Due.due("none is there", x.cut(false), 0);
        Due.due("WORTH", x.cut(true), 0);
    }

    // "with each all HANGING of it that are there".
    private static void cutWithAllHanging() {
        IronedOut x = creases(new int[] {0, 1, 1, -9}, new int[] {0, 1, 1, 4}, new int[] {0, 1, 1, 4});
        x.tie(1, 0);
        Due.due("one hangs on it", x.cut(false), 3);
        x.tie(2, 1);
        Due.due("both", x.cut(false), 7);
        Due.due("WORTH", x.cut(true), -1);
        x.press(2);
        Due.due("2 isn't there", x.cut(false), 3);
        x = creases(new int[] {0, 1, 1, -8}, new int[] {0, 1, 1, 4}, new int[] {0, 1, 1, 4});
        x.tie(1, 0);
        x.tie(2, 1);
        Due.due("0 of all three is no less than nothing, and none are fewer", x.cut(false), 0);
    }

    // "all that are to go (if there) in it".
    private static void cutOfThoseToGoIfThere() {
        IronedOut x = creases(new int[] {0, 1, 1, 9}, new int[] {0, 1, 1, 9});
        x.want(0, 1);
        x.want(1, 1);
        Due.due("both", x.cut(true), 18);
        x.press(0);
        Due.due("one isn't there", x.cut(false), 2);
        x.by(Due.text(x, "scorches 10;"));
        x.press(1);
        Due.due("none is there", x.cut(false), 0);
    }

    // "none that is to stay .. none"; promise 25: "-1000: none."
    private static void cutNone() {
        IronedOut x = creases(new int[] {0, 1, 1, 1}, new int[] {0, 1, 1, 1}, new int[] {0, 1, 1, 1});
        x.tie(1, 0);
        x.tie(2, 1);
        x.want(0, 1);
        x.want(2, 0);
        Due.due("2 goes with 0", x.cut(false), -1000);
        Due.due("2 goes with 0", x.cut(true), -1000);
        x.want(2, 1);
        Due.due("it may", x.cut(false), 7);
        x.want(2, 0);
        x.press(2);
        Due.due("it isn't there", x.cut(false), 3);
        x.want(0, 0);
        x.want(1, 1);
        Due.due("1 without 0", x.cut(false), 2);
    }

    // "the one with which least WORTH goes".
    private static void cutLeastWorth() {
        IronedOut x = creases(new int[] {0, 1, 1, 9}, new int[] {0, 1, 1, -9}, new int[] {0, 1, 1, 0},
            new int[] {0, 1, 1, -1});
        Due.due("all below 0", x.cut(false), 10);
        Due.due("WORTH", x.cut(true), -10);
        IronedOut y = persons();
        for (int i = 0; i < 12; i++) {
            y.crease(0, 0, 1, -9);
        }
        Due.due("the least", y.cut(true), -108);
        Due.due("all twelve", y.cut(false), 4095);
        y = persons();
        for (int i = 0; i < 12; i++) {
            y.crease(0, 0, 1, 9);
            y.tie(i, i - 1);
        }
        y.want(0, 1);
        Due.due("the most", y.cut(true), 108);
        allOrNone();
    }

    /** WORTH is ahead of how few: twelve that go together for little less than nothing. */
    private static void allOrNone() {
        for (int last = 0; last <= 2; last++) {
            IronedOut x = persons();
            for (int i = 0; i < 12; i++) {
                x.crease(i % 2, i, 1, i == 11 ? last - 2 : i % 2 == 0 ? -1 : 1);
            }
            for (int i = 0; i < 12; i++) {
                x.tie(i, (i + 1) % 12);
            }
            Due.due("WORTH " + (last - 3) + " of all", x.cut(false), 4095);
            x = persons();
            for (int i = 0; i < 12; i++) {
                x.crease(0, i, 1, i == 0 ? last - 1 : 0);
                x.tie(i, i - 1);
            }
            Due.due("WORTH " + (last - 1) + " of all", x.cut(false), last == 0 ? 4095 : 0);
        }
    }

    // "of like ones the fewest, then the lowest set": what two such sets have in common is one, too, and of fewer, so
    // that two of like WORTH are never as few.
    private static void cutFewest() {
        IronedOut x = creases(new int[] {0, 1, 1, -1}, new int[] {0, 1, 1, -1}, new int[] {0, 1, 1, -2},
            new int[] {0, 1, 1, 2}, new int[] {0, 1, 1, 2});
        x.tie(3, 2);
        x.tie(0, 3);
        x.tie(3, 0);
        x.tie(4, 0);
        Due.due("1 alone", x.cut(false), 2);
        x = creases(new int[] {0, 1, 1, 2}, new int[] {0, 1, 1, -2}, new int[] {0, 1, 1, 0});
        x.tie(0, 1);
        x.want(2, 1);
        Due.due("2 alone, though with 0 and 1 it is like", x.cut(false), 4);
    }

    // "WORK (8 at most"; promise 26: "-2 .. if there are 8."
    private static void eightAtWork() {
        IronedOut x = new IronedOut();
        for (int i = 1; i <= 8; i++) {
            Due.due("WORK", x.board(i), i);
            Due.due("WORK", x.about(5), i);
        }
        Twins.leaves("a ninth", EdgesOfAskingTest::full, y -> y.board(1), -2);
    }

    // "hours 1 .. 99"; promise 26: "-2 for others (1 .. 99)".
    private static void boardOfOthers() {
        Twins.taken("board", EdgesOfAskingTest::some, IronedOut::board, -2, -1, 1, 99);
        Twins.refused("board", EdgesOfAskingTest::some, IronedOut::board, -2, -2, 0, 100);
    }

    // Promise 26: "(hours NONE: none any more)".
    private static void boardNoneAnyMore() {
        Due.due("of none", new IronedOut().board(-1), 0);
        IronedOut x = full();
        Due.due("of eight", x.board(-1), 0);
        Due.due("WORK", x.about(5), 0);
        Due.due("how long", x.hands(1, -1), 0);
        Due.due("the first again", x.board(99), 1);
        Due.due("how long", x.hands(1, -1), 99);
    }

    // "on m (1 .. 4) hands"; promise 27: "-2 for others."
    private static void handsOfOthers() {
        Twins.taken("m", EdgesOfAskingTest::some, (x, m) -> x.hands(m, -1), -2, 1, 4);
        Twins.refused("m", EdgesOfAskingTest::some, (x, m) -> x.hands(m, -1), -2, -1, 0, 5);
        Twins.refused("m of the first", EdgesOfAskingTest::some, (x, m) -> x.hands(m, 0), -2, -1, 0, 5);
        Twins.taken("i", EdgesOfAskingTest::some, (x, i) -> x.hands(1, i), -2, -1, 0, 1);
        Twins.refused("i", EdgesOfAskingTest::some, (x, i) -> x.hands(1, i), -2, -2, 2, 7, 8);
        Twins.taken("i of eight", EdgesOfAskingTest::full, (x, i) -> x.hands(1, i), -2, 0, 7);
        Twins.refused("i of eight", EdgesOfAskingTest::full, (x, i) -> x.hands(1, i), -2, -2, 8);
    }

    // Without WORK nothing is long, and there is no i-th.
    private static void handsOfNoWork() {
        for (int m = 1; m <= 4; m++) {
            Due.due("how long", new IronedOut().hands(m, -1), 0);
            Due.due("no i-th", new IronedOut().hands(m, 0), -2);
        }
    }

    // "one behind the other on each": all on one hand; as many hands as there is WORK, or more.
    private static void handsOfOneAndFour() {
        IronedOut x = new IronedOut();
        for (int i = 0; i < 8; i++) {
            x.board(99);
        }
        for (int m = 1; m <= 4; m++) {
            Due.due("how long", x.hands(m, -1), 99 * ((8 + m - 1) / m));
        }
        for (int i = 0; i < 8; i++) {
            Due.due("one hand", x.hands(1, i), 0);
            Due.due("four hands", x.hands(4, i), i / 2);
            Due.due("two hands", x.hands(2, i), i / 4);
            Due.due("three hands", x.hands(3, i), i / 3);
        }
        x = new IronedOut();
        x.board(1);
        Due.due("one of four", x.hands(4, -1), 1);
        Due.due("the lowest", x.hands(4, 0), 0);
        x.board(2);
        x.board(3);
        Due.due("three of four", x.hands(4, -1), 3);
        Due.due("as low as it ends no later", x.hands(4, 1), 0);
        Due.due("as low as it ends no later", x.hands(4, 2), 1);
    }

    // "of like ones, one by one, the lowest hand".
    private static void handsLowest() {
        IronedOut x = new IronedOut();
        int[] hours = {2, 3, 2, 3, 2};
        for (int h : hours) {
            x.board(h);
        }
        Due.due("6 and 6", x.hands(2, -1), 6);
        int[] due = {0, 1, 0, 1, 0};
        for (int i = 0; i < 5; i++) {
            Due.due("whose hand, " + i, x.hands(2, i), due[i]);
        }
        x = new IronedOut();
        for (int h : new int[] {1, 2, 3, 4}) {
            x.board(h);
        }
        Due.due("5 and 5", x.hands(2, -1), 5);
        int[] two = {0, 1, 1, 0};
        for (int i = 0; i < 4; i++) {
            Due.due("whose hand, " + i, x.hands(2, i), two[i]);
        }
    }

    // "k (0 .. 12)", "w (1 .. 100)"; promise 28: "NONE for others."
    private static void flatOfOthers() {
        Twins.taken("person", EdgesOfAskingTest::some, (x, person) -> x.flat(person, 1, 1), -1, 0, 1);
        Twins.refused("person", EdgesOfAskingTest::some, (x, person) -> x.flat(person, 1, 1), -1, -1, 2, 5);
        Twins.taken("k", EdgesOfAskingTest::some, (x, k) -> x.flat(0, k, 1), -1, 0, 12);
        Twins.refused("k", EdgesOfAskingTest::some, (x, k) -> x.flat(0, k, 1), -1, -1, 13);
        Twins.taken("w", EdgesOfAskingTest::some, (x, w) -> x.flat(0, 1, w), -1, 1, 100);
        Twins.refused("w", EdgesOfAskingTest::some, (x, w) -> x.flat(0, 1, w), -1, -1, 0, 101);
    }

    private static IronedOut twelveOfAYear() {
        IronedOut x = persons();
        for (int i = 0; i < 12; i++) {
            x.crease(0, 50, 1, 0);
        }
        return x;
    }

    // "no .. more than k (0 .. 12) of them lie": 0, one, all.
    private static void flatOfK() {
        for (int k = 0; k <= 12; k++) {
            Due.due("k lowest of twelve", twelveOfAYear().flat(0, k, 1), (1 << k) - 1);
            Due.due("k lowest of twelve", twelveOfAYear().flat(0, k, 100), (1 << k) - 1);
            Due.due("of none", twelveOfAYear().flat(1, k, 1), 0);
        }
    }

    // "in no w (1 .. 100) YEARS one behind the other".
    private static void flatOfW() {
        int[][] cases = {{50, 50, 1}, {50, 51, 2}, {50, 59, 10}, {0, 99, 100}, {0, 98, 99}, {99, 0, 100}, {60, 50, 11}};
        for (int[] c : cases) {
            IronedOut x = creases(new int[] {0, c[0], 1, 0}, new int[] {0, c[1], 1, 0});
            Due.due("in so many YEARS both lie", x.flat(0, 1, c[2]), 1);
            Due.due("two may", x.flat(0, 2, c[2]), 3);
            if (c[2] > 1) {
                Due.due("in one less they don't", x.flat(0, 1, c[2] - 1), 3);
            }
        }
        IronedOut x = creases(new int[] {0, 0, 1, 0}, new int[] {0, 33, 1, 0}, new int[] {0, 66, 1, 0},
            new int[] {0, 99, 1, 0});
        Due.due("33 YEARS", x.flat(0, 1, 33), 15);
        Due.due("34 YEARS", x.flat(0, 1, 34), 5);
        Due.due("67 YEARS, two", x.flat(0, 2, 67), 11);
    }

    // "CREASES (bits) of a PERSON, those that are there".
    private static void flatOfThoseThere() {
        IronedOut x = creases(new int[] {0, 5, 1, 0}, new int[] {0, 5, 1, 0}, new int[] {0, 5, 1, 0},
            new int[] {1, 5, 1, 0});
        x.press(0);
        Due.due("gone", x.flat(0, 1, 1), 2);
        x.by(Due.text(x, "scorches 10;"));
        x.press(1);
        Due.due("scorched", x.flat(0, 12, 100), 4);
        x.press(2);
        Due.due("none is there", x.flat(0, 12, 100), 0);
        Due.due("the other's", x.flat(1, 1, 100), 8);
    }

    // "of like ones the lowest set": of the most.
    private static void flatLowestSet() {
        IronedOut x = creases(new int[] {0, 10, 1, 0}, new int[] {0, 11, 1, 0}, new int[] {0, 12, 1, 0},
            new int[] {0, 13, 1, 0});
        Due.due("one in two: 0 and 2, not 1 and 3", x.flat(0, 1, 2), 5);
        Due.due("one in three: 0 and 3", x.flat(0, 1, 3), 9);
        Due.due("one in four: 0", x.flat(0, 1, 4), 1);
        Due.due("two in three: 0, 1, 3", x.flat(0, 2, 3), 11);
        x = creases(new int[] {0, 11, 1, 0}, new int[] {0, 10, 1, 0}, new int[] {0, 12, 1, 0});
        Due.due("more are ahead of lower", x.flat(0, 1, 2), 6);
    }

    // "SEAMS (8 at most"; promise 29: "-2 .. if there are 8."
    private static void eightSeams() {
        IronedOut x = new IronedOut();
        for (int i = 1; i <= 8; i++) {
            Due.due("SEAMS", x.seam(i, i + 1, i), i);
            Due.due("SEAMS", x.about(6), i);
        }
        Twins.leaves("a ninth", EdgesOfAskingTest::full, y -> y.seam(0, 1, 1), -2);
    }

    // "in YEARS from a to b together, a no more than b, sum 0 .. 999"; promise 29: "-2 for others".
    private static void seamOfOthers() {
        Twins.taken("from", EdgesOfAskingTest::some, (x, from) -> x.seam(from, 50, 1), -2, -1, 0, 49, 50);
        Twins.refused("from", EdgesOfAskingTest::some, (x, from) -> x.seam(from, 50, 1), -2, -2, 51, 99, 100);
        Twins.taken("from, to 99", EdgesOfAskingTest::some, (x, from) -> x.seam(from, 99, 1), -2, 0, 99);
        Twins.refused("from, to 99", EdgesOfAskingTest::some, (x, from) -> x.seam(from, 99, 1), -2, -2, 100);
        Twins.taken("to", EdgesOfAskingTest::some, (x, to) -> x.seam(50, to, 1), -2, 50, 51, 99);
        Twins.refused("to", EdgesOfAskingTest::some, (x, to) -> x.seam(50, to, 1), -2, -1, 0, 49, 100);
        Twins.refused("both", EdgesOfAskingTest::some, (x, year) -> x.seam(year, year, 1), -2, -2, 100, 101);
        Twins.taken("both", EdgesOfAskingTest::some, (x, year) -> x.seam(year, year, 1), -2, 0, 99);
        Twins.taken("sum", EdgesOfAskingTest::some, (x, sum) -> x.seam(0, 1, sum), -2, 0, 999);
        Twins.refused("sum", EdgesOfAskingTest::some, (x, sum) -> x.seam(0, 1, sum), -2, -1, 1000);
    }

    // Promise 29: "(from NONE: none any more)".
    private static void seamNoneAnyMore() {
        Due.due("of none", new IronedOut().seam(-1, 0, 0), 0);
        IronedOut x = full();
        Due.due("of eight", x.seam(-1, 5, 5), 0);
        Due.due("SEAMS", x.about(6), 0);
        Due.due("any set will do", x.sets(0, 0), 4);
        Due.due("the first again", x.seam(0, 99, 0), 1);
        Due.due("the other arguments aren't looked at", x.seam(-1, -7, 1000), 0);
    }

    // Promise 30: "NONE for others."
    private static void setsOfOthers() {
        Twins.taken("person", EdgesOfAskingTest::some, (x, person) -> x.sets(person, 0), -1, 0, 1);
        Twins.refused("person", EdgesOfAskingTest::some, (x, person) -> x.sets(person, 0), -1, -1, 2, 5);
        Twins.taken("what", EdgesOfAskingTest::some, (x, what) -> x.sets(0, what), -1, 0, 1, 2);
        Twins.refused("what", EdgesOfAskingTest::some, (x, what) -> x.sets(0, what), -1, -1, 3);
    }

    // Without SEAMS all are so.
    private static void setsWithoutSeams() {
        IronedOut x = persons();
        for (int n = 0; n <= 12; n++) {
            Due.due("sets of " + n, x.sets(0, 0), 1 << n);
            Due.due("SURE", x.sets(0, 1), 0);
            Due.due("NEVER", x.sets(0, 2), 0);
            x.crease(0, n, 1, 0);
        }
        Due.due("the other's: the empty one", x.sets(1, 0), 1);
    }

    // "in YEARS from a to b": both ends are in it; no less and no more than the sum.
    private static void setsAtTheEnds() {
        int[][] cases = {{10, 20, 1}, {9, 21, 1}, {10, 10, 0}, {11, 20, 0}, {10, 19, 0}, {21, 99, 0}, {0, 9, 0}};
        for (int[] c : cases) {
            IronedOut x = creases(new int[] {0, 10, 3, 0}, new int[] {0, 20, 4, 0});
            x.seam(c[0], c[1], 7);
            Due.due("7 from " + c[0] + " to " + c[1], x.sets(0, 0), c[2]);
            Due.due("SURE", x.sets(0, 1), c[2] * 3);
        }
        for (int sum = 0; sum <= 8; sum++) {
            IronedOut x = creases(new int[] {0, 0, 3, 0}, new int[] {0, 99, 4, 0});
            x.seam(0, 99, sum);
            Due.due("sum " + sum, x.sets(0, 0), sum == 0 || sum == 3 || sum == 4 || sum == 7 ? 1 : 0);
            Due.due("SURE", x.sets(0, 1), sum == 3 ? 1 : sum == 4 ? 2 : sum == 7 ? 3 : 0);
            Due.due("NEVER", x.sets(0, 2), sum == 0 ? 3 : sum == 3 ? 2 : sum == 4 ? 1 : 0);
        }
        IronedOut x = persons();
        for (int i = 0; i < 12; i++) {
            x.crease(0, i, 9, 0);
        }
        x.seam(0, 99, 108);
        Due.due("all of twelve", x.sets(0, 1), 4095);
        x.seam(-1, 0, 0);
        x.seam(0, 99, 54);
        Due.due("six of twelve", x.sets(0, 0), 924);
    }

    // "(without any: 0 each)".
    private static void setsWithoutAny() {
        IronedOut x = creases(new int[] {0, 10, 3, 0}, new int[] {0, 20, 4, 0});
        x.seam(0, 99, 999);
        for (int what = 0; what <= 2; what++) {
            Due.due("without any", x.sets(0, what), 0);
            Due.due("without any", x.sets(1, what), 0);
        }
        x.seam(-1, 0, 0);
        x.seam(0, 15, 3);
        x.seam(5, 10, 0);
        for (int what = 0; what <= 2; what++) {
            Due.due("two that can't be together", x.sets(0, what), 0);
        }
    }

    private static void setsOfAPersonWithoutCreases() {
        IronedOut x = persons();
        x.seam(0, 99, 0);
        Due.due("the empty one", x.sets(0, 0), 1);
        Due.due("SURE", x.sets(0, 1), 0);
        Due.due("NEVER", x.sets(0, 2), 0);
        x.seam(0, 99, 1);
        Due.due("none", x.sets(0, 0), 0);
    }

    // "(those of the set alone being there, DEPTHS as told)": as they are now is nothing to it.
    private static void setsDepthsAsTold() {
        IronedOut x = creases(new int[] {0, 10, 3, 0}, new int[] {0, 20, 4, 0}, new int[] {1, 10, 3, 0});
        x.seam(0, 99, 3);
        Due.due("one", x.sets(0, 1), 1);
        Due.due("the other never", x.sets(0, 2), 2);
        x.by(Due.text(x, "presses 1; scorches 0;"));
        x.press(1);
        Due.due("DEPTH 3 now", x.ofCrease(1, 2), 3);
        Due.due("as told", x.sets(0, 1), 1);
        x.by(0);
        x.press(0);
        Due.due("gone", x.sets(0, 1), 1);
        x.by(Due.text(x, "scorches 10;"));
        x.press(1);
        Due.due("scorched", x.sets(0, 2), 2);
        Due.due("of one PERSON alone", x.sets(1, 1), 4);
    }

    // Promise 31: "NONE: none, and for others."
    private static void nextOfOthers() {
        Twins.taken("person", () -> creases(new int[] {0, 1, 1, 0}, new int[] {1, 1, 1, 0}), IronedOut::next, -1, 0, 1);
        Twins.refused("person", EdgesOfAskingTest::some, IronedOut::next, -1, -1, 2, 5);
    }

    // "not in all, not in none .. none".
    private static void nextNone() {
        IronedOut x = creases(new int[] {0, 10, 3, 0}, new int[] {0, 20, 4, 0});
        Due.due("without CREASES", x.next(1), -1);
        Due.due("each in half", x.next(0), 0);
        x.seam(0, 15, 3);
        Due.due("0 in all", x.next(0), 1);
        x.seam(16, 99, 0);
        Due.due("0 in all, 1 in none", x.next(0), -1);
        x.seam(0, 99, 999);
        Due.due("without any set", x.next(0), -1);
    }

    // "as near to half of these as can be .. of like ones the lowest".
    private static void nextOfLikeOnes() {
        IronedOut x = persons();
        for (int i = 0; i < 12; i++) {
            x.crease(i == 0 ? 1 : 0, i, 1, 0);
        }
        Due.due("each in half", x.next(0), 1);
        x.seam(0, 99, 1);
        Due.due("each in one of eleven", x.next(0), 1);
        x.seam(1, 1, 0);
        Due.due("1 is in none", x.next(0), 2);
        x.seam(-1, 0, 0);
        x.seam(0, 99, 10);
        Due.due("each in ten of eleven", x.next(0), 1);
        // {0}, {1}, {2}: with 3 or without; 3 is in half, the others in a third.
        x = creases(new int[] {0, 1, 2, 0}, new int[] {0, 2, 2, 0}, new int[] {0, 3, 2, 0}, new int[] {0, 50, 1, 0});
        x.seam(0, 9, 2);
        Due.due("half", x.next(0), 3);
        // {0, 1}, {0, 2}, {1, 2} alone: each in two of three, as near as one of three.
        x = creases(new int[] {0, 1, 2, 0}, new int[] {0, 2, 2, 0}, new int[] {0, 3, 2, 0}, new int[] {0, 50, 1, 0});
        x.seam(0, 99, 4);
        Due.due("two of three", x.next(0), 0);
        // Two of {0, 1, 2}, with 3 or without: 3 is in half, the others in two thirds.
        x = creases(new int[] {0, 1, 2, 0}, new int[] {0, 2, 2, 0}, new int[] {0, 3, 2, 0}, new int[] {0, 50, 1, 0});
        x.seam(0, 9, 4);
        Due.due("half, not more", x.next(0), 3);
        // {0, 1}, {2}: both in half.
        x = creases(new int[] {0, 1, 1, 0}, new int[] {0, 2, 2, 0}, new int[] {0, 3, 3, 0});
        x.seam(0, 99, 3);
        Due.due("of like ones the lowest", x.next(0), 0);
    }

    // "NEPHEWS (6 at most"; promise 32: "-2 .. if there are 6."
    private static void sixNephews() {
        IronedOut x = new IronedOut();
        for (int i = 1; i <= 6; i++) {
            Due.due("NEPHEWS", x.heir(i), i);
            Due.due("NEPHEWS", x.about(7), i);
        }
        Twins.leaves("a seventh", EdgesOfAskingTest::full, y -> y.heir(1), -2);
    }

    // "WEIGHTS 1 .. 999"; promise 32: "-2 for others (1 .. 999)".
    private static void heirOfOthers() {
        Twins.taken("heir", EdgesOfAskingTest::some, IronedOut::heir, -2, -1, 1, 999);
        Twins.refused("heir", EdgesOfAskingTest::some, IronedOut::heir, -2, -2, 0, 1000);
    }

    // Promise 32: "(weight NONE: none any more)".
    private static void heirNoneAnyMore() {
        Due.due("of none", new IronedOut().heir(-1), 0);
        IronedOut x = full();
        Due.due("of six", x.heir(-1), 0);
        Due.due("NEPHEWS", x.about(7), 0);
        Due.due("no i-th", x.laughs(1, false, 0), -1);
        Due.due("the first again", x.heir(999), 1);
        Due.due("all his", x.laughs(99, false, 0), 99);
    }

    // "n (0 .. 99) LAUGHS"; promise 33: "NONE for others."
    private static void laughsOfOthers() {
        for (int turns = 0; turns <= 1; turns++) {
            boolean byTurns = turns == 1;
            Twins.taken("n", EdgesOfAskingTest::some, (x, n) -> x.laughs(n, byTurns, 1), -1, 0, 1, 99);
            Twins.refused("n", EdgesOfAskingTest::some, (x, n) -> x.laughs(n, byTurns, 1), -1, -1, 100);
            Twins.taken("i", EdgesOfAskingTest::full, (x, i) -> x.laughs(9, byTurns, i), -1, 0, 5);
            Twins.refused("i", EdgesOfAskingTest::full, (x, i) -> x.laughs(9, byTurns, i), -1, -1, 6, 7);
            Twins.refused("i of two", EdgesOfAskingTest::some, (x, i) -> x.laughs(9, byTurns, i), -1, -1, 2, 5);
            Twins.refused("i of none", IronedOut::new, (x, i) -> x.laughs(9, byTurns, i), -1, -1, 0);
        }
    }

    private static void shares(String of, IronedOut x, int n, boolean turns, int... due) {
        int sum = 0;
        for (int i = 0; i < due.length; i++) {
            Due.due(of + ", laughs of " + i, x.laughs(n, turns, i), due[i]);
            sum += due[i];
        }
        Due.due(of + ", all laughs are had", sum, n);
    }

    private static IronedOut nephews(int... weights) {
        IronedOut x = new IronedOut();
        for (int weight : weights) {
            x.heir(weight);
        }
        return x;
    }

    private static void laughsOfNone() {
        shares("of none", nephews(999, 1, 5), 0, false, 0, 0, 0);
        shares("of none", nephews(999, 1, 5), 0, true, 0, 0, 0);
        shares("of one", nephews(1, 999, 5), 1, false, 0, 1, 0);
        shares("of one", nephews(1, 999, 5), 1, true, 0, 1, 0);
    }

    private static void laughsAtMost() {
        shares("99 of one", nephews(1), 99, false, 99);
        shares("99 of one", nephews(999), 99, true, 99);
        shares("99 of six", nephews(999, 999, 999, 999, 999, 999), 99, false, 17, 17, 17, 16, 16, 16);
        shares("99 of six", nephews(999, 999, 999, 999, 999, 999), 99, true, 17, 17, 17, 16, 16, 16);
        shares("unlike ones", nephews(1, 999, 999, 999, 999, 999), 99, false, 0, 20, 20, 20, 20, 19);
        shares("unlike ones", nephews(1, 999, 999, 999, 999, 999), 99, true, 0, 20, 20, 20, 20, 19);
    }

    // "those left one each to those with most left over; of like ones the lowest".
    private static void laughsLeftOver() {
        shares("nothing is left", nephews(1, 2, 3), 12, false, 2, 4, 6);
        shares("most left over", nephews(1, 2, 3), 11, false, 2, 4, 5);
        shares("of like ones the lowest", nephews(1, 1), 7, false, 4, 3);
        shares("of like ones the lowest", nephews(3, 1, 1, 1), 2, false, 1, 1, 0, 0);
        shares("the latest has most", nephews(5, 6, 7), 1, false, 0, 0, 1);
        shares("one each, no more", nephews(1, 1, 1, 1, 1, 1), 5, false, 1, 1, 1, 1, 1, 0);
    }

    // "to him whose WEIGHT by one more than he has is greatest; of like ones the lowest".
    private static void laughsByTurns() {
        shares("like ones", nephews(1, 1), 1, true, 1, 0);
        shares("like ones", nephews(1, 1), 7, true, 4, 3);
        shares("2 by 2 is 1 by 1", nephews(1, 2), 2, true, 1, 1);
        shares("2 by 2 is 1 by 1, the lowest", nephews(2, 1), 2, true, 2, 0);
        shares("not cut: 3 by 2 is above 1", nephews(1, 3), 2, true, 0, 2);
        shares("998 by 2 is below 499.5", nephews(998, 499), 2, true, 2, 0);
        shares("999 by 2 is above 499", nephews(499, 999), 2, true, 0, 2);
        shares("999 by 2 is below 500", nephews(999, 500), 2, true, 1, 1);
    }

    // "OFFERS (8 at most"; promise 34: "-2 .. if there are 8."
    private static void eightOffers() {
        IronedOut x = new IronedOut();
        for (int i = 1; i <= 8; i++) {
            Due.due("OFFERS", x.offer(i), i);
            Due.due("OFFERS", x.about(8), i);
        }
        Twins.leaves("a ninth", EdgesOfAskingTest::full, y -> y.offer(1), -2);
    }

    // "0 .. 999 each"; promise 34: "-2 for others (0 .. 999)".
    private static void offerOfOthers() {
        Twins.taken("offer", EdgesOfAskingTest::some, IronedOut::offer, -2, -1, 0, 999);
        Twins.refused("offer", EdgesOfAskingTest::some, IronedOut::offer, -2, -2, 1000);
    }

    // Promise 34: "(price NONE: none any more)".
    private static void offerNoneAnyMore() {
        Due.due("of none", new IronedOut().offer(-1), 0);
        IronedOut x = full();
        Due.due("of eight", x.offer(-1), 0);
        Due.due("OFFERS", x.about(8), 0);
        Due.due("nothing is taken", x.price(true), 0);
        Due.due("the first again", x.offer(999), 1);
        Due.due("it is taken", x.price(true), 999);
    }

    private static void best(int price, int takings, int... offers) {
        IronedOut x = new IronedOut();
        for (int offer : offers) {
            x.offer(offer);
        }
        Due.due("the price", x.price(false), price);
        Due.due("what it takes", x.price(true), takings);
        int most = 0;
        int by = 0;
        for (int tried = 0; tried <= 999; tried++) {
            int takes = 0;
            for (int offer : offers) {
                takes += offer >= tried ? tried : 0;
            }
            by = takes > most ? tried : by;
            most = Math.max(most, takes);
        }
        Due.due("the price of all that are tried", price, by);
        Due.due("what is most", takings, most);
    }

    // Without OFFERS, or with none above 0, each price takes 0: the least is 0.
    private static void priceOfNone() {
        best(0, 0);
        best(0, 0, 0);
        best(0, 0, 0, 0, 0, 0, 0, 0, 0, 0);
    }

    // "the price (0 .. 999)"; "each buys who offers no less than the price".
    private static void priceAtTheEnds() {
        best(1, 1, 1);
        best(999, 999, 999);
        best(999, 7992, 999, 999, 999, 999, 999, 999, 999, 999);
        best(999, 999, 999, 0, 0, 0, 0, 0, 0, 0);
        best(998, 7984, 999, 999, 999, 999, 999, 999, 999, 998);
        best(1, 8, 1, 1, 1, 1, 1, 1, 1, 1);
    }

    // "of like ones the least".
    private static void priceLeastOfLikeOnes() {
        best(5, 10, 10, 5);
        best(5, 10, 5, 10);
        best(3, 9, 3, 3, 9);
        best(3, 9, 9, 3, 3);
        best(2, 6, 6, 3, 2);
        best(10, 10, 10, 4);
        best(6, 12, 10, 6);
    }

    // "n (1 .. 9)", "a (0 .. 10)", "b (0 .. 10)", "k (0 .. 9)"; promise 36: "NONE for others."
    private static void wronglyOfOthers() {
        for (int low = 0; low <= 1; low++) {
            boolean lower = low == 1;
            Twins.taken("n", IronedOut::new, (x, n) -> x.wrongly(n, 0, 5, 5, lower), -1, 1, 9);
            Twins.refused("n", IronedOut::new, (x, n) -> x.wrongly(n, 0, 5, 5, lower), -1, -1, 0, 10);
            Twins.taken("k", IronedOut::new, (x, k) -> x.wrongly(3, k, 5, 5, lower), -1, 0, 9);
            Twins.refused("k", IronedOut::new, (x, k) -> x.wrongly(3, k, 5, 5, lower), -1, -1, 10);
            Twins.taken("a", IronedOut::new, (x, a) -> x.wrongly(3, 0, a, 5, lower), -1, 0, 10);
            Twins.refused("a", IronedOut::new, (x, a) -> x.wrongly(3, 0, a, 5, lower), -1, -1, 11);
            Twins.taken("b", IronedOut::new, (x, b) -> x.wrongly(3, 0, 5, b, lower), -1, 0, 10);
            Twins.refused("b", IronedOut::new, (x, b) -> x.wrongly(3, 0, 5, b, lower), -1, -1, 11);
        }
    }

    private static void odds(int n, int k, int a, int b, long upper, long lower) {
        IronedOut x = new IronedOut();
        String call = "wrongly " + n + ", " + k + ", " + a + ", " + b;
        Due.due(call + ", upper", x.wrongly(n, k, a, b, false), upper);
        Due.due(call + ", lower", x.wrongly(n, k, a, b, true), lower);
    }

    // None wrong, all wrong, all seen: 0 by 1 and 1 by 1.
    private static void wronglyAtTheEnds() {
        for (int n = 1; n <= 9; n++) {
            odds(n, 0, 5, 5, 1, 1);
            odds(n, 0, 0, 0, 1, 1);
            odds(n, 1, 0, 0, 0, 1);
            odds(n, 1, 10, 10, 0, 1);
            odds(n, n, 10, 0, 1, 1);
        }
        odds(9, 9, 1, 9, 1, 1000000000000000000L);
        odds(9, 1, 1, 9, 1000000000000000000L - 913517247483640899L, 1000000000000000000L);
    }

    // "k (0 .. 9) or more are wrong": of fewer that are laid none can be so.
    private static void wronglyMoreThanLaid() {
        for (int n = 1; n <= 8; n++) {
            odds(n, n + 1, 10, 0, 0, 1);
            odds(n, 9, 10, 0, 0, 1);
            odds(n, n + 1, 5, 5, 0, 1);
        }
    }

    // "in lowest terms".
    private static void wronglyInLowestTerms() {
        odds(1, 1, 5, 0, 1, 2);
        odds(1, 1, 1, 0, 1, 10);
        odds(1, 1, 1, 9, 1, 100);
        odds(1, 1, 2, 5, 1, 10);
        odds(1, 1, 3, 3, 21, 100);
        odds(2, 1, 5, 0, 3, 4);
        odds(9, 5, 5, 0, 1, 2);
        odds(9, 9, 5, 0, 1, 512);
    }

    // "PAID, 8 at most"; promise 37: "-2 .. if there are 8."
    private static void eightPaid() {
        IronedOut x = creases(new int[] {0, 10, 3, 2});
        for (int i = 1; i <= 8; i++) {
            Due.due("PAID", x.priced(0, i), i);
        }
        Twins.leaves("a ninth", EdgesOfAskingTest::full, y -> y.priced(0, 1), -2);
    }

    // "a CREASE, a price 0 .. 9999"; promise 37: "-2 for others".
    private static void pricedOfOthers() {
        Twins.taken("crease", EdgesOfAskingTest::some, (x, i) -> x.priced(i, 0), -2, -1, 0, 2);
        Twins.refused("crease", EdgesOfAskingTest::some, (x, i) -> x.priced(i, 0), -2, -2, 3, 12);
        Twins.refused("crease of none", EdgesOfAskingTest::persons, (x, i) -> x.priced(i, 0), -2, -2, 0);
        Twins.taken("price", EdgesOfAskingTest::some, (x, price) -> x.priced(0, price), -2, 0, 9999);
        Twins.refused("price", EdgesOfAskingTest::some, (x, price) -> x.priced(0, price), -2, -1, 10000);
    }

    // Promise 37: "(crease NONE: none any more)".
    private static void pricedNoneAnyMore() {
        Due.due("of none", new IronedOut().priced(-1, 0), 0);
        IronedOut x = full();
        x.priced(-1, 0);
        x.priced(0, 77);
        Due.due("by none", x.whose(), 0);
        Due.due("none any more", x.priced(-1, 10000), 0);
        Due.due("by all", x.whose(), 1);
        Due.due("the first again", x.priced(0, 0), 1);
    }

    // "TEXTS (bits)": none without TEXTS, all without PAID.
    private static void whoseOfNone() {
        IronedOut x = persons();
        x.crease(0, 0, 3, 0);
        Due.due("without TEXTS", x.whose(), 0);
        x.priced(0, 3);
        Due.due("without TEXTS", x.whose(), 0);
        x.priced(-1, 0);
        for (int i = 0; i < 4; i++) {
            Due.text(x, "price " + i + ";");
            Due.due("without PAID all", x.whose(), (2 << i) - 1);
        }
        x.priced(0, 3);
        Due.due("the fourth", x.whose(), 8);
        x.priced(0, 0);
        Due.due("none", x.whose(), 0);
    }

    // "by whose price (a TEXT without it: by what is so without) all are so": 0 and 9999.
    private static void whoseAtTheEnds() {
        IronedOut x = persons();
        x.crease(0, 0, 3, 0);
        Due.text(x, "price -5;");
        Due.text(x, "price 9999*9999;");
        Due.text(x, "presses 1;");
        Due.text(x, "");
        x.priced(0, 0);
        Due.due("0 at least", x.whose(), 1);
        x.priced(-1, 0);
        x.priced(0, 9999);
        Due.due("9999 at most", x.whose(), 2);
        x.priced(-1, 0);
        x.priced(0, 3);
        Due.due("DEPTH without", x.whose(), 12);
        for (int i = 0; i < 7; i++) {
            x.priced(0, 3);
        }
        Due.due("all eight", x.whose(), 12);
        x.priced(-1, 0);
        for (int i = 0; i < 8; i++) {
            x.priced(0, i < 7 ? 3 : 4);
        }
        Due.due("all but the eighth", x.whose(), 0);
    }

    // "(as now)".
    private static void whoseAsNow() {
        IronedOut x = persons();
        x.crease(0, 0, 3, 0);
        x.crease(0, 0, 5, 0);
        Due.text(x, "price hour;");
        Due.text(x, "price deep 1;");
        x.priced(0, 3);
        Due.due("by none", x.whose(), 0);
        x.hour(3);
        Due.due("HOUR 3", x.whose(), 1);
        x.press(1);
        Due.due("DEPTH 3 of the other", x.whose(), 3);
        x.undo();
        Due.due("taken back", x.whose(), 1);
        x.heat(6);
        x.press(0);
        Due.due("of one that is gone as well", x.whose(), 1);
    }
}
