/** Promises 32 to 38: nephews, prices by the fold, patterns laid wrongly, and whose law it was. */
public final class LaughTest {
    public static void main(String[] args) {
        heirs();
        wholeLaughs();
        laughsByTurns();
        offers();
        prices();
        wrongly();
        wronglyOfOthers();
        paid();
        whose();
        Due.finish();
    }

    private static void heirs() {
        IronedOut x = new IronedOut();
        Due.due("heir(0)", x.heir(0), -2);
        Due.due("heir(1000)", x.heir(1000), -2);
        Due.due("heir(-2)", x.heir(-2), -2);
        for (int i = 1; i <= 6; i++) {
            Due.due("heir", x.heir(i == 1 ? 999 : 1), i);
        }
        Due.due("a seventh", x.heir(5), -2);
        Due.due("NEPHEWS", x.about(7), 6);
        Due.due("none any more", x.heir(-1), 0);
        Due.due("NEPHEWS", x.about(7), 0);
        Due.due("laughs among none", x.laughs(5, true, 0), -1);
    }

    private static void shares(IronedOut x, int n, boolean turns, int... due) {
        for (int i = 0; i < due.length; i++) {
            Due.due("laughs(" + n + ", " + turns + ", " + i + ")", x.laughs(n, turns, i), due[i]);
        }
    }

    private static IronedOut nephews(int... weights) {
        IronedOut x = new IronedOut();
        for (int weight : weights) {
            x.heir(weight);
        }
        return x;
    }

    private static void wholeLaughs() {
        IronedOut x = nephews(53, 24, 23);
        shares(x, 0, false, 0, 0, 0);
        shares(x, 1, false, 1, 0, 0);
        shares(x, 7, false, 4, 2, 1);
        shares(x, 10, false, 5, 3, 2);
        shares(x, 99, false, 52, 24, 23);
        x = nephews(5, 5, 5, 5, 5, 5);
        shares(x, 3, false, 1, 1, 1, 0, 0, 0);
        shares(x, 10, false, 2, 2, 2, 2, 1, 1);
        shares(x, 12, false, 2, 2, 2, 2, 2, 2);
        x = nephews(1, 999);
        shares(x, 99, false, 0, 99);
        x = nephews(1, 3, 3);
        shares(x, 3, false, 1, 1, 1);
        Due.due("n -1", x.laughs(-1, false, 0), -1);
        Due.due("n 100", x.laughs(100, false, 0), -1);
        Due.due("i -1", x.laughs(1, false, -1), -1);
        Due.due("i 3", x.laughs(1, false, 3), -1);
        Due.due("i 3", x.laughs(1, true, 3), -1);
        Due.due("n -1", x.laughs(-1, true, 0), -1);
    }

    private static void laughsByTurns() {
        IronedOut x = nephews(53, 24, 23);
        shares(x, 0, true, 0, 0, 0);
        shares(x, 1, true, 1, 0, 0);
        shares(x, 2, true, 2, 0, 0);
        shares(x, 3, true, 2, 1, 0);
        shares(x, 7, true, 4, 2, 1);
        x = nephews(4, 8, 4);
        // 8; then 4, 4 and 4 are like ones.
        shares(x, 1, true, 0, 1, 0);
        shares(x, 2, true, 1, 1, 0);
        shares(x, 3, true, 1, 2, 0);
        shares(x, 4, true, 1, 2, 1);
        shares(x, 99, true, 25, 50, 24);
        x = nephews(1, 999);
        shares(x, 99, true, 0, 99);
    }

    private static void offers() {
        IronedOut x = new IronedOut();
        Due.due("offer(-2)", x.offer(-2), -2);
        Due.due("offer(1000)", x.offer(1000), -2);
        for (int i = 1; i <= 8; i++) {
            Due.due("offer", x.offer(i == 1 ? 999 : 0), i);
        }
        Due.due("a ninth", x.offer(1), -2);
        Due.due("OFFERS", x.about(8), 8);
        Due.due("price", x.price(false), 999);
        Due.due("takings", x.price(true), 999);
        Due.due("none any more", x.offer(-1), 0);
        Due.due("OFFERS", x.about(8), 0);
    }

    private static void priced(int price, int takings, int... offers) {
        IronedOut x = new IronedOut();
        for (int offer : offers) {
            x.offer(offer);
        }
        Due.due("price", x.price(false), price);
        Due.due("takings", x.price(true), takings);
    }

    private static void prices() {
        priced(0, 0);
        priced(0, 0, 0, 0);
        priced(7, 7, 7);
        priced(5, 10, 10, 5);
        priced(5, 10, 5, 10);
        priced(20, 60, 90 - 40, 20, 20, 1);
        priced(100, 100, 100, 20, 20, 20);
        priced(2, 6, 6, 3, 2);
        priced(2, 6, 2, 3, 6);
        priced(999, 7992, 999, 999, 999, 999, 999, 999, 999, 999);
    }

    private static void odds(int n, int k, int a, int b, long upper, long lower) {
        IronedOut x = new IronedOut();
        String call = "wrongly(" + n + ", " + k + ", " + a + ", " + b + ")";
        Due.due(call + " upper", x.wrongly(n, k, a, b, false), upper);
        Due.due(call + " lower", x.wrongly(n, k, a, b, true), lower);
    }

    private static void wrongly() {
        odds(1, 1, 5, 5, 1, 4);
        odds(1, 1, 10, 0, 1, 1);
        odds(1, 1, 10, 10, 0, 1);
        odds(1, 1, 0, 0, 0, 1);
        odds(1, 0, 0, 0, 1, 1);
        odds(9, 9, 10, 0, 1, 1);
        odds(8, 9, 10, 0, 0, 1);
        odds(2, 1, 5, 5, 7, 16);
        odds(2, 2, 5, 5, 1, 16);
        odds(3, 2, 10, 5, 1, 2);
        odds(3, 1, 1, 0, 271, 1000);
        odds(2, 2, 3, 3, 441, 10000);
        odds(9, 9, 1, 9, 1, 1000000000000000000L);
        odds(9, 8, 1, 9, 223, 250000000000000000L);
        odds(9, 1, 1, 9, 1000000000000000000L - 913517247483640899L, 1000000000000000000L);
        odds(9, 5, 10, 5, 1, 2);
        odds(9, 0, 7, 3, 1, 1);
    }

    private static void wronglyOfOthers() {
        IronedOut x = new IronedOut();
        int[][] others = {{0, 1, 1, 1}, {10, 1, 1, 1}, {1, -1, 1, 1}, {1, 10, 1, 1}, {1, 1, -1, 1}, {1, 1, 11, 1},
            {1, 1, 1, -1}, {1, 1, 1, 11}};
        for (int[] o : others) {
            Due.due("wrongly of others", x.wrongly(o[0], o[1], o[2], o[3], false), -1);
            Due.due("wrongly of others", x.wrongly(o[0], o[1], o[2], o[3], true), -1);
        }
    }

    private static IronedOut folded() {
        IronedOut x = new IronedOut();
        x.person(0, 40);
        x.person(1, 30);
        x.crease(0, 10, 4, 1);
        x.crease(1, 20, 6, 2);
        return x;
    }

    private static void paid() {
        IronedOut x = folded();
        Due.due("priced(2, 0)", x.priced(2, 0), -2);
        Due.due("priced(-2, 0)", x.priced(-2, 0), -2);
        Due.due("priced(0, -1)", x.priced(0, -1), -2);
        Due.due("priced(0, 10000)", x.priced(0, 10000), -2);
        for (int i = 1; i <= 8; i++) {
            Due.due("priced", x.priced(i % 2, i == 1 ? 9999 : 0), i);
        }
        Due.due("a ninth", x.priced(0, 0), -2);
        Due.due("none any more", x.priced(-1, 20000), 0);
        Due.due("priced", x.priced(0, 9999), 1);
    }

    private static void whose() {
        IronedOut x = folded();
        Due.due("no TEXTS", x.whose(), 0);
        Due.text(x, "price depth;");
        Due.text(x, "presses 3;");
        Due.text(x, "price coins/10;");
        Due.text(x, "price if who=0 then 4 else 3 end;");
        Due.due("without PAID all", x.whose(), 15);
        x.priced(0, 4);
        Due.due("4 of all", x.whose(), 15);
        x.priced(1, 6);
        Due.due("and 6", x.whose(), 3);
        x.priced(-1, 0);
        x.priced(1, 3);
        Due.due("3", x.whose(), 12);
        x.press(0);
        x.priced(0, 3);
        Due.due("as now: 38 by 10", x.whose(), 4);
        x.priced(0, 4);
        Due.due("none", x.whose(), 0);
        x.priced(-1, 0);
        x.priced(0, 2);
        Due.due("as now: DEPTH 2", x.whose(), 3);
        Due.due("THE TEXT stays", x.about(2), -1);
    }
}
