/** Promises 1 to 5, 10, 18 to 20, 22, 40 to 42 and 45: what is told, and what is asked of it. */
public final class TellingTest {
    public static void main(String[] args) {
        newObject();
        persons();
        creases();
        ties();
        tiesInARound();
        heats();
        ofPersons();
        ofCreases();
        eldestBlankShared();
        sharedOfOne();
        twelve();
        Due.finish();
    }

    private static void newObject() {
        IronedOut x = new IronedOut();
        for (int what = 0; what <= 9; what++) {
            Due.due("about(" + what + ")", x.about(what), what == 2 ? -1 : 0);
        }
        Due.due("about(-1)", x.about(-1), -2);
        Due.due("about(10)", x.about(10), -2);
        Due.due("is(0)", x.is(0), 0);
        Due.due("is(1)", x.is(1), 5);
        Due.due("is(2)", x.is(2), 167);
        Due.due("is(3)", x.is(3), 0);
        Due.due("is(4)", x.is(4), -2);
        Due.due("is(-1)", x.is(-1), -2);
        Due.due("undo()", x.undo(), -1);
        Due.due("book(-1, 0)", x.book(-1, 0), 0);
        Due.due("fault(0)", x.fault(0), -1);
        Due.due("fault(1)", x.fault(1), -1);
        Due.due("of(0, 0)", x.of(0, 0), -1000);
        Due.due("ofCrease(0, 0)", x.ofCrease(0, 0), -1000);
        Due.due("hanging(0)", x.hanging(0), -1);
        Due.due("whose()", x.whose(), 0);
        Due.due("blank()", x.blank(), 0);
        x.person(0, 5);
        x.heat(9);
        Due.due("back()", x.back(), 0);
        Due.due("PERSONS behind back", x.about(0), 0);
        Due.due("HEAT behind back", x.is(1), 5);
    }

    private static void persons() {
        IronedOut x = new IronedOut();
        Due.due("skin -1", x.person(-1, 0), -1);
        Due.due("skin 3", x.person(3, 0), -1);
        Due.due("coins -1", x.person(0, -1), -1);
        Due.due("coins 10000", x.person(0, 10000), -1);
        Due.due("first", x.person(0, 0), 0);
        Due.due("second", x.person(1, 9999), 1);
        Due.due("third", x.person(2, 17), 2);
        Due.due("fourth", x.person(0, 1), 3);
        Due.due("fifth", x.person(0, 2), 4);
        Due.due("sixth", x.person(0, 3), -1);
        Due.due("PERSONS", x.about(0), 5);
        Due.due("SKIN", x.of(2, 0), 2);
        Due.due("COINS", x.of(1, 1), 9999);
        Due.due("BLANK", x.blank(), 31);
    }

    private static void creases() {
        IronedOut x = new IronedOut();
        Due.due("no person", x.crease(0, 1, 1, 1), -1);
        x.person(0, 0);
        int[][] others = {{-1, 1, 1, 1}, {1, 1, 1, 1}, {0, -1, 1, 1}, {0, 100, 1, 1}, {0, 1, 0, 1}, {0, 1, 10, 1},
            {0, 1, 1, -10}, {0, 1, 1, 10}, {0, 1, 1, Integer.MIN_VALUE}};
        for (int[] o : others) {
            Due.due("crease of others", x.crease(o[0], o[1], o[2], o[3]), -1);
        }
        Due.due("CREASES", x.is(3), 0);
        Due.due("least", x.crease(0, 0, 1, -9), 0);
        Due.due("most", x.crease(0, 99, 9, 9), 1);
        for (int i = 2; i < 12; i++) {
            Due.due("crease " + i, x.crease(0, i, 1, 0), i);
        }
        Due.due("13th", x.crease(0, 1, 1, 1), -1);
        Due.due("CREASES", x.is(3), 12);
        Due.due("bits", x.of(0, 2), 4095);
    }

    private static IronedOut four() {
        IronedOut x = new IronedOut();
        x.person(0, 100);
        x.person(1, 100);
        x.crease(0, 10, 9, 1);
        x.crease(1, 20, 9, 2);
        x.crease(0, 30, 9, 3);
        x.crease(1, 40, 9, 4);
        return x;
    }

    private static void ties() {
        IronedOut x = four();
        Due.due("itself", x.tie(1, 1), false);
        Due.due("other not told", x.tie(0, 4), false);
        Due.due("one not told", x.tie(4, 0), false);
        Due.due("one -1", x.tie(-1, 0), false);
        Due.due("other -1", x.tie(0, -1), false);
        Due.due("far other", x.tie(0, 33), false);
        Due.due("3 on 2", x.tie(3, 2), true);
        Due.due("1 on 0", x.tie(1, 0), true);
        Due.due("hanging(0)", x.hanging(0), 3);
        Due.due("2 on 1", x.tie(2, 1), true);
        Due.due("2 on 1 again", x.tie(2, 1), false);
        Due.due("hanging(0)", x.hanging(0), 15);
        Due.due("hanging(1)", x.hanging(1), 14);
        Due.due("hanging(2)", x.hanging(2), 12);
        Due.due("hanging(3)", x.hanging(3), 8);
        Due.due("2 on 0 itself, too", x.tie(2, 0), true);
        Due.due("on what 2 hangs", x.ofCrease(2, 5), 3);
        Due.due("on what 3 hangs", x.ofCrease(3, 5), 4);
        Due.due("hanging(-1)", x.hanging(-1), -1);
        Due.due("hanging(4)", x.hanging(4), -1);
    }

    private static void tiesInARound() {
        IronedOut x = four();
        x.tie(0, 1);
        x.tie(1, 2);
        Due.due("the other way about", x.tie(1, 0), true);
        x.tie(2, 0);
        for (int i = 0; i < 3; i++) {
            Due.due("hanging in a round", x.hanging(i), 7);
        }
        Due.due("apart", x.hanging(3), 8);
        x.tie(3, 0);
        Due.due("hanging on a round", x.hanging(2), 15);
        Due.due("hanging on a round", x.hanging(3), 8);
    }

    private static void heats() {
        IronedOut x = four();
        Due.due("heat(-1)", x.heat(-1), false);
        Due.due("heat(10)", x.heat(10), false);
        Due.due("HEAT", x.is(1), 5);
        for (int heat = 0; heat <= 9; heat++) {
            Due.due("heat", x.heat(heat), true);
            Due.due("HEAT", x.is(1), heat);
            Due.due("presses without", x.ofCrease(0, 6), heat / 2);
            Due.due("scorches without", x.ofCrease(0, 7), heat < 6 ? 0 : heat - 6);
            Due.due("price without", x.ofCrease(0, 8), 9);
        }
        x.person(2, 0);
        x.crease(2, 1, 3, 0);
        Due.due("presses of silk", x.ofCrease(4, 6), 1);
        x.heat(0);
        Due.due("presses of silk", x.ofCrease(4, 6), 1);
        Due.due("presses 0", x.press(0), 9);
        Due.due("price 9", x.of(0, 1), 91);
    }

    /** All there can be at once: nothing is looked at beyond the last. */
    private static void twelve() {
        IronedOut x = new IronedOut();
        for (int i = 0; i < 5; i++) {
            x.person(0, 9999);
        }
        for (int i = 0; i < 12; i++) {
            x.crease(0, i * 9, 9, 1);
            x.tie(i, i - 1);
        }
        Due.due("hanging", x.hanging(0), 4095);
        Due.due("hanging", x.hanging(11), 2048);
        Due.due("span", x.of(0, 5), 8);
        Due.due("WORTH", x.of(0, 4), 12);
        Due.due("flat", x.flat(0, 12, 100), 4095);
        Due.due("flat", x.flat(0, 1, 10), 1365);
        Due.due("sets", x.sets(0, 0), 4096);
        Due.due("next", x.next(0), 0);
        Due.due("cut", x.cut(false), 0);
        x.want(0, 1);
        Due.due("cut", x.cut(false), 4095);
        Due.due("worth", x.cut(true), 12);
        Due.due("eldest", x.eldest(0), 0);
        Due.due("shared", x.shared(0, 4), 0);
        Due.due("blank", x.blank(), 30);
        x.by(Due.text(x, "presses 9;scorches 0;"));
        Due.due("all go", x.press(0), 0);
        Due.due("none there", x.of(0, 3), 0);
        Due.due("all come back", x.damp(9), 9);
        Due.due("all come back", x.damp(9), 3);
        Due.due("hours", x.hour(10), 10);
        Due.due("DEPTH", x.ofCrease(11, 2), 2);
        Due.due("foretold", x.foretold(60, 11), 8);
        Due.due("undo", x.undo(), 12);
        Due.due("seasons", x.seasons(0, 1), 10);
        Due.due("book", x.book(-1, 0), 24);
        Due.due("the last in the book", x.book(23, 1), 11);
    }

    private static void sharedOfOne() {
        IronedOut x = four();
        x.crease(1, 11, 1, 0);
        Due.due("shared", x.shared(0, 1), 2);
    }

    private static void ofPersons() {
        IronedOut x = four();
        x.heat(9);
        x.by(Due.text(x, "presses 9;scorches 0;"));
        Due.due("WORTH", x.of(0, 4), 4);
        Due.due("span", x.of(0, 5), 69);
        Due.due("what 6", x.of(0, 6), -1000);
        Due.due("what -1", x.of(0, -1), -1000);
        Due.due("person -1", x.of(-1, 0), -1000);
        Due.due("person 2", x.of(2, 0), -1000);
        Due.due("gone", x.press(2), 0);
        Due.due("bits", x.of(0, 2), 5);
        Due.due("bits there", x.of(0, 3), 1);
        Due.due("WORTH there", x.of(0, 4), 1);
        Due.due("span", x.of(0, 5), 89);
        Due.due("span of the other", x.of(1, 5), 59);
        x.crease(0, 0, 1, -9);
        x.crease(0, 99, 1, -9);
        x.crease(0, 50, 1, -9);
        Due.due("WORTH below 0", x.of(0, 4), -26);
        Due.due("span between", x.of(0, 5), 48);
        x.person(0, 0);
        Due.due("span without any", x.of(2, 5), 100);
        Due.due("WORTH without any", x.of(2, 4), 0);
        x.crease(2, 40, 1, 1);
        Due.due("span behind", x.of(2, 5), 59);
        x.crease(2, 90, 1, 1);
        x.crease(2, 41, 1, 1);
        Due.due("span between", x.of(2, 5), 48);
    }

    private static void ofCreases() {
        IronedOut x = four();
        x.crease(1, 77, 4, -7);
        Due.due("PERSON", x.ofCrease(4, 0), 1);
        Due.due("YEAR", x.ofCrease(4, 1), 77);
        Due.due("DEPTH", x.ofCrease(4, 2), 4);
        Due.due("WORTH", x.ofCrease(4, 3), -7);
        Due.due("there", x.ofCrease(4, 4), 0);
        Due.due("hangs on none", x.ofCrease(4, 5), 0);
        Due.due("presses", x.ofCrease(4, 6), 2);
        Due.due("scorches", x.ofCrease(4, 7), 0);
        Due.due("price", x.ofCrease(4, 8), 4);
        Due.due("what 9", x.ofCrease(4, 9), -1000);
        Due.due("what -1", x.ofCrease(4, -1), -1000);
        Due.due("crease -1", x.ofCrease(-1, 0), -1000);
        Due.due("crease 5", x.ofCrease(5, 0), -1000);
        Due.due("pressed", x.press(4), 2);
        Due.due("price as it is then", x.ofCrease(4, 8), 2);
        x.press(4);
        Due.due("gone", x.ofCrease(4, 4), 1);
        Due.due("price of one that is gone", x.ofCrease(4, 8), 0);
    }

    private static void eldestBlankShared() {
        IronedOut x = four();
        x.crease(0, 10, 1, 0);
        x.crease(0, 9, 1, 0);
        Due.due("eldest", x.eldest(0), 5);
        x.press(5);
        Due.due("of like ones the lowest", x.eldest(0), 0);
        Due.due("eldest(-1)", x.eldest(-1), -1);
        Due.due("eldest(2)", x.eldest(2), -1);
        Due.due("eldest of the other", x.eldest(1), 1);
        x.person(2, 1);
        Due.due("eldest of none", x.eldest(2), -1);
        Due.due("blank", x.blank(), 4);
        x.crease(2, 99, 1, 0);
        Due.due("eldest of the last YEAR", x.eldest(2), 6);
        Due.due("blank", x.blank(), 0);
        Due.due("shared nothing", x.shared(0, 1), 0);
        x.crease(2, 19, 1, 0);
        x.crease(2, 90, 1, 0);
        x.crease(2, 39, 1, 0);
        Due.due("shared", x.shared(0, 2), 10);
        Due.due("shared the other way about", x.shared(2, 0), 10);
        x.press(9);
        Due.due("shared of those there", x.shared(0, 2), 2);
        x.press(6);
        Due.due("shared", x.shared(1, 2), 0);
        x.crease(1, 95, 1, 0);
        Due.due("shared the last ten", x.shared(1, 2), 512);
        Due.due("shared(0, 0)", x.shared(0, 0), -1);
        Due.due("shared(0, 3)", x.shared(0, 3), -1);
        Due.due("shared(3, 0)", x.shared(3, 0), -1);
        Due.due("shared(-1, 0)", x.shared(-1, 0), -1);
    }}
