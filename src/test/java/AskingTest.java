/** Promises 24 to 31: what to press, hands, flat, seams and the next question. */
public final class AskingTest {
    public static void main(String[] args) {
        wanted();
        cut();
        cutOfLikeOnes();
        cutThroughOnesThatAreGone();
        work();
        hands();
        handsOfLikeOnes();
        flat();
        flatOfThoseThere();
        seams();
        sets();
        next();
        Due.finish();
    }

    private static IronedOut spa(int[][] creases) {
        IronedOut x = new IronedOut();
        x.person(0, 100);
        x.person(0, 100);
        for (int[] c : creases) {
            x.crease(c[0], c[1], c[2], c[3]);
        }
        x.by(Due.text(x, "presses 9;"));
        return x;
    }

    private static void wanted() {
        IronedOut x = spa(new int[][] {{0, 1, 1, 1}, {0, 2, 1, 1}});
        Due.due("want(2, 1)", x.want(2, 1), -2);
        Due.due("want(-2, 1)", x.want(-2, 1), -2);
        Due.due("want(0, 2)", x.want(0, 2), -2);
        Due.due("want(0, -1)", x.want(0, -1), -2);
        Due.due("WANTED", x.about(4), 0);
        for (int i = 1; i <= 8; i++) {
            Due.due("want", x.want(1, i % 2), i);
        }
        Due.due("a ninth", x.want(0, 1), -2);
        Due.due("WANTED", x.about(4), 8);
        Due.due("none any more", x.want(-1, 1), 0);
        Due.due("WANTED", x.about(4), 0);
        Due.due("want(0, 1)", x.want(0, 1), 1);
        Due.due("none any more, whatever go is", x.want(-1, 7), 0);
    }

    private static void cut() {
        IronedOut x = spa(new int[][] {{0, 1, 1, 5}, {1, 2, 1, 2}, {0, 3, 1, -4}, {1, 4, 1, 0}});
        Due.due("cut", x.cut(false), 4);
        Due.due("worth", x.cut(true), -4);
        x.tie(2, 0);
        Due.due("2 alone may go", x.cut(false), 4);
        x.tie(0, 2);
        Due.due("both or none", x.cut(false), 0);
        x.want(1, 1);
        Due.due("1", x.cut(false), 2);
        Due.due("worth", x.cut(true), 2);
        x.tie(0, 1);
        Due.due("1, 0, 2", x.cut(false), 7);
        Due.due("worth", x.cut(true), 3);
        x.want(2, 0);
        Due.due("none", x.cut(false), -1000);
        Due.due("none", x.cut(true), -1000);
        x.want(1, 0);
        Due.due("the latest holds", x.cut(false), 0);
        x.want(3, 1);
        Due.due("3", x.cut(false), 8);
        Due.due("worth", x.cut(true), 0);
        x.press(3);
        Due.due("3 isn't there", x.cut(false), 0);
        x.want(-1, 0);
        x.press(2);
        Due.due("none there", x.cut(false), 0);
        Due.due("nothing is changed", x.about(4), 0);
    }

    private static void cutOfLikeOnes() {
        IronedOut x = spa(new int[][] {{0, 1, 1, 0}, {1, 2, 1, -2}, {0, 3, 1, -2}, {1, 4, 1, -4}, {0, 5, 1, 4}});
        Due.due("all below 0", x.cut(false), 14);
        x.tie(1, 4);
        x.tie(4, 1);
        x.want(4, 1);
        x.want(3, 0);
        Due.due("the fewest", x.cut(false), 22);
        Due.due("worth", x.cut(true), 0);
        x = spa(new int[][] {{0, 1, 1, 2}, {1, 2, 1, -1}, {0, 3, 1, -1}, {0, 3, 1, -2}, {0, 4, 1, 1}, {0, 4, 1, 1}});
        x.tie(1, 4);
        x.tie(4, 1);
        x.tie(2, 5);
        x.tie(5, 2);
        x.tie(3, 0);
        x.tie(0, 3);
        Due.due("fewest of none, 0 each", x.cut(false), 0);
        x = spa(new int[][] {{0, 1, 1, 3}, {0, 2, 1, -1}, {0, 3, 1, -3}, {0, 4, 1, -1}, {0, 5, 1, -1}});
        x.tie(2, 1);
        x.tie(1, 2);
        x.tie(3, 4);
        x.want(0, 1);
        x.want(3, 0);
        Due.due("4 drags 3, which is to stay", x.cut(false), 7);
        Due.due("worth", x.cut(true), -1);
    }

    private static void cutThroughOnesThatAreGone() {
        IronedOut x = spa(new int[][] {{0, 1, 1, 1}, {0, 2, 1, 1}, {0, 3, 1, 1}});
        x.tie(1, 0);
        x.press(1);
        x.tie(2, 1);
        x.want(0, 1);
        Due.due("2 hangs on 0 through 1, which is gone", x.cut(false), 5);
        x.want(1, 0);
        x.want(1, 1);
        Due.due("1 isn't there", x.cut(false), 5);
    }

    private static void work() {
        IronedOut x = new IronedOut();
        Due.due("board(0)", x.board(0), -2);
        Due.due("board(100)", x.board(100), -2);
        Due.due("board(-2)", x.board(-2), -2);
        for (int i = 1; i <= 8; i++) {
            Due.due("board", x.board(i == 1 ? 1 : 99), i);
        }
        Due.due("a ninth", x.board(1), -2);
        Due.due("WORK", x.about(5), 8);
        Due.due("hands(4, -1)", x.hands(4, -1), 198);
        Due.due("none any more", x.board(-1), 0);
        Due.due("WORK", x.about(5), 0);
    }

    private static void hands() {
        IronedOut x = new IronedOut();
        for (int m = 1; m <= 4; m++) {
            Due.due("no WORK", x.hands(m, -1), 0);
            Due.due("no WORK", x.hands(m, 0), -2);
        }
        Due.due("hands(0, -1)", x.hands(0, -1), -2);
        Due.due("hands(5, -1)", x.hands(5, -1), -2);
        int[] hours = {7, 6, 5, 4, 3};
        for (int h : hours) {
            x.board(h);
        }
        Due.due("hands(1, -1)", x.hands(1, -1), 25);
        Due.due("hands(1, 4)", x.hands(1, 4), 0);
        Due.due("hands(2, -1)", x.hands(2, -1), 13);
        int[] two = {0, 0, 1, 1, 1};
        for (int i = 0; i < 5; i++) {
            Due.due("hands(2, " + i + ")", x.hands(2, i), two[i]);
        }
        Due.due("hands(3, -1)", x.hands(3, -1), 9);
        int[] three = {0, 1, 2, 2, 1};
        for (int i = 0; i < 5; i++) {
            Due.due("hands(3, " + i + ")", x.hands(3, i), three[i]);
        }
        Due.due("hands(4, -1)", x.hands(4, -1), 7);
        int[] four = {0, 1, 2, 3, 3};
        for (int i = 0; i < 5; i++) {
            Due.due("hands(4, " + i + ")", x.hands(4, i), four[i]);
        }
        Due.due("hands(4, 5)", x.hands(4, 5), -2);
        Due.due("hands(4, -2)", x.hands(4, -2), -2);
    }

    private static void handsOfLikeOnes() {
        IronedOut x = new IronedOut();
        int[] hours = {1, 1, 9, 1, 1};
        for (int h : hours) {
            x.board(h);
        }
        int[] due = {0, 0, 0, 1, 1};
        Due.due("hands(2, -1)", x.hands(2, -1), 9);
        int[] one = {0, 0, 1, 0, 0};
        for (int i = 0; i < 5; i++) {
            Due.due("hands(2, " + i + ")", x.hands(2, i), one[i]);
            Due.due("hands(4, " + i + ")", x.hands(4, i), one[i]);
        }
        x.board(4);
        x.board(11);
        Due.due("hands(3, -1)", x.hands(3, -1), 11);
        due = new int[] {0, 0, 0, 1, 1, 1, 2};
        for (int i = 0; i < 7; i++) {
            Due.due("hands(3, " + i + ")", x.hands(3, i), due[i]);
        }
    }

    private static void flat() {
        IronedOut x = spa(new int[][] {{0, 10, 1, 0}, {0, 12, 1, 0}, {1, 11, 1, 0}, {0, 14, 1, 0}, {0, 14, 1, 0},
            {0, 99, 1, 0}});
        Due.due("person -1", x.flat(-1, 1, 1), -1);
        Due.due("person 2", x.flat(2, 1, 1), -1);
        Due.due("k -1", x.flat(0, -1, 1), -1);
        Due.due("k 13", x.flat(0, 13, 1), -1);
        Due.due("w 0", x.flat(0, 1, 0), -1);
        Due.due("w 101", x.flat(0, 1, 101), -1);
        Due.due("k 0", x.flat(0, 0, 1), 0);
        Due.due("k 12", x.flat(0, 12, 100), 59);
        Due.due("one a year", x.flat(0, 1, 1), 43);
        Due.due("one in two", x.flat(0, 1, 2), 43);
        Due.due("one in three", x.flat(0, 1, 3), 41);
        Due.due("one in five", x.flat(0, 1, 5), 33);
        Due.due("one in 89", x.flat(0, 1, 85), 33);
        Due.due("one in 90", x.flat(0, 1, 90), 1);
        Due.due("one in 100", x.flat(0, 1, 100), 1);
        Due.due("two in three", x.flat(0, 2, 3), 43);
        Due.due("two in five", x.flat(0, 2, 5), 35);
        Due.due("three in five", x.flat(0, 3, 5), 43);
        Due.due("two in 100", x.flat(0, 2, 100), 3);
        Due.due("the other", x.flat(1, 1, 100), 4);
    }

    private static void flatOfThoseThere() {
        IronedOut x = spa(new int[][] {{0, 10, 1, 0}, {0, 11, 1, 0}, {0, 12, 1, 0}});
        Due.due("two ends", x.flat(0, 1, 2), 5);
        x.press(0);
        Due.due("of like ones the lowest", x.flat(0, 1, 2), 2);
        x.press(1);
        x.press(2);
        Due.due("none", x.flat(0, 12, 1), 0);
    }

    private static void seams() {
        IronedOut x = new IronedOut();
        Due.due("from -2", x.seam(-2, 1, 1), -2);
        Due.due("to 100", x.seam(0, 100, 1), -2);
        Due.due("from above to", x.seam(5, 4, 1), -2);
        Due.due("from 100", x.seam(100, 100, 1), -2);
        Due.due("sum -1", x.seam(0, 1, -1), -2);
        Due.due("sum 1000", x.seam(0, 1, 1000), -2);
        Due.due("SEAMS", x.about(6), 0);
        for (int i = 1; i <= 8; i++) {
            Due.due("seam", x.seam(i == 1 ? 99 : 0, 99, i == 1 ? 999 : 0), i);
        }
        Due.due("a ninth", x.seam(0, 1, 1), -2);
        Due.due("SEAMS", x.about(6), 8);
        Due.due("none any more", x.seam(-1, 50, 5000), 0);
        Due.due("SEAMS", x.about(6), 0);
    }

    private static void sets() {
        IronedOut x = spa(new int[][] {{0, 10, 2, 0}, {1, 10, 2, 0}, {0, 20, 3, 0}, {0, 20, 5, 0}, {0, 30, 4, 0}});
        Due.due("person -1", x.sets(-1, 0), -1);
        Due.due("person 2", x.sets(2, 0), -1);
        Due.due("what 3", x.sets(0, 3), -1);
        Due.due("what -1", x.sets(0, -1), -1);
        Due.due("without SEAMS", x.sets(0, 0), 16);
        Due.due("SURE", x.sets(0, 1), 0);
        Due.due("NEVER", x.sets(0, 2), 0);
        x.seam(10, 20, 5);
        Due.due("2 and 3, or 5", x.sets(0, 0), 4);
        Due.due("SURE", x.sets(0, 1), 0);
        x.seam(20, 30, 9);
        Due.due("5 and 4", x.sets(0, 0), 1);
        Due.due("SURE", x.sets(0, 1), 24);
        Due.due("NEVER", x.sets(0, 2), 5);
        x.press(3);
        x.press(4);
        Due.due("those that are gone may have been, DEPTHS as told", x.sets(0, 1), 24);
        Due.due("the other", x.sets(1, 0), 0);
        x.seam(11, 19, 1);
        Due.due("none", x.sets(0, 0), 0);
        Due.due("SURE of none", x.sets(0, 1), 0);
        Due.due("NEVER of none", x.sets(0, 2), 0);
        x.seam(-1, 0, 0);
        x.seam(0, 9, 0);
        Due.due("0 of none", x.sets(0, 0), 16);
        x.seam(0, 10, 0);
        Due.due("0", x.sets(0, 0), 8);
        Due.due("NEVER", x.sets(0, 2), 1);
        x.person(1, 1);
        Due.due("the empty set", x.sets(2, 0), 1);
        Due.due("SURE", x.sets(2, 1), 0);
        Due.due("NEVER", x.sets(2, 2), 0);
        x.seam(-1, 0, 0);
        for (int i = 5; i < 12; i++) {
            x.crease(2, i, 9, 0);
        }
        x.seam(0, 99, 63);
        Due.due("all", x.sets(2, 1), 4095 - 31);
    }

    private static void next() {
        IronedOut x = spa(new int[][] {{1, 0, 1, 0}, {0, 10, 1, 0}, {0, 20, 1, 0}, {0, 30, 1, 0}, {0, 40, 4, 0}});
        Due.due("next(-1)", x.next(-1), -1);
        Due.due("next(2)", x.next(2), -1);
        Due.due("of like ones the lowest", x.next(0), 1);
        Due.due("the other", x.next(1), 0);
        // {1}, {2}, {3}: each in one of three.
        x.seam(0, 99, 1);
        Due.due("one of three", x.next(0), 1);
        // 1 is in none; {2} or {3}.
        x.seam(10, 10, 0);
        Due.due("one of two", x.next(0), 2);
        x.seam(20, 20, 0);
        Due.due("3 is sure", x.next(0), -1);
        x.seam(30, 30, 0);
        Due.due("none", x.next(0), -1);
        x.seam(-1, 0, 0);
        // {1,2}, {1,3}, {2,3} and 4 of two: 4 is in three of six, the others in four.
        x.seam(0, 30, 2);
        Due.due("the nearest to half", x.next(0), 4);
        x.press(4);
        Due.due("the nearest to half", x.next(0), 4);
        x.seam(35, 99, 4);
        Due.due("two of three", x.next(0), 1);
        x.seam(-1, 0, 0);
        // {1}, {2}, {3}, with 4 or without: 4 is in three of six, the others in two.
        x.seam(0, 30, 1);
        Due.due("half is nearer than fewer", x.next(0), 4);
        x.person(0, 0);
        Due.due("without CREASES", x.next(2), -1);
    }
}
