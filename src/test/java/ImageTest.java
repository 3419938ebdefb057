/** Promises 43 to 45: THE IMAGE, back to it, and what there is. */
public final class ImageTest {
    public static void main(String[] args) {
        backToAll();
        backTwice();
        tapeAndFaultStay();
        textsBehindBack();
        stepsBehindBack();
        ofOtherObjects();
        Due.finish();
    }

    private static IronedOut full() {
        IronedOut x = new IronedOut();
        x.person(0, 50);
        x.person(1, 60);
        x.crease(0, 10, 5, 1);
        x.crease(1, 20, 6, 2);
        x.tie(1, 0);
        x.heat(4);
        x.by(Due.text(x, "presses 2;"));
        x.hour(3);
        x.press(0);
        x.want(0, 1);
        x.board(5);
        x.seam(10, 10, 5);
        x.heir(5);
        x.offer(5);
        x.priced(0, 3);
        return x;
    }

    private static void same(IronedOut x) {
        int[] about = {2, 1, 0, 4, 1, 1, 1, 1, 1, 0};
        for (int what = 0; what <= 9; what++) {
            if (what != 9) {
                Due.due("about(" + what + ")", x.about(what), about[what]);
            }
        }
        Due.due("HOUR", x.is(0), 3);
        Due.due("HEAT", x.is(1), 4);
        Due.due("X", x.is(2), 6230);
        Due.due("CREASES", x.is(3), 2);
        Due.due("COINS", x.of(0, 1), 47);
        Due.due("COINS", x.of(1, 1), 60);
        Due.due("DEPTH", x.ofCrease(0, 2), 3);
        Due.due("there", x.of(0, 3) | x.of(1, 3), 3);
        Due.due("hanging", x.hanging(0), 3);
        Due.due("hanging", x.hanging(1), 2);
        Due.due("on what it hangs", x.ofCrease(1, 5) * 10 + x.ofCrease(0, 5), 10);
        Due.due("presses", x.ofCrease(0, 6), 2);
        Due.due("book", x.book(-1, 0), 0);
        Due.due("cut", x.cut(false), 3);
        Due.due("hands", x.hands(1, -1), 5);
        Due.due("sets", x.sets(0, 1), 1);
        Due.due("laughs", x.laughs(9, true, 0), 9);
        Due.due("price", x.price(false), 5);
        Due.due("whose", x.whose(), 1);
    }

    private static void change(IronedOut x) {
        x.person(2, 1);
        x.crease(0, 99, 9, 9);
        x.crease(0, 99, 9, 9);
        x.tie(0, 1);
        x.heat(9);
        x.by(Due.text(x, "presses 9;price 7;"));
        x.press(0);
        x.hour(60);
        x.seasons(7, 40);
        x.undo();
        x.want(0, 0);
        x.board(6);
        x.seam(20, 20, 6);
        x.heir(6);
        x.offer(6);
        x.priced(1, 1);
    }

    private static void backToAll() {
        IronedOut x = full();
        Due.due("image()", x.image(), 3);
        same(x);
        change(x);
        Due.due("HOUR", x.is(0), 63);
        Due.due("back()", x.back(), 3);
        same(x);
        x.want(-1, 0);
        x.board(-1);
        x.seam(-1, 0, 0);
        x.heir(-1);
        x.offer(-1);
        x.priced(-1, 0);
        change(x);
        Due.due("back()", x.back(), 3);
        same(x);
        lists(x);
    }

    /** Lists of two, written over ahead of the way back. */
    private static void lists(IronedOut x) {
        x.want(1, 0);
        x.board(7);
        x.seam(20, 20, 6);
        x.heir(7);
        x.offer(7);
        x.priced(1, 6);
        x.image();
        for (int i = 0; i < 2; i++) {
            x.want(-1, 0);
            x.board(-1);
            x.seam(-1, 0, 0);
            x.heir(-1);
            x.offer(-1);
            x.priced(-1, 0);
            change(x);
            change(x);
            x.back();
            Due.due("cut", x.cut(false), -1000);
            Due.due("hands", x.hands(2, -1), 7);
            Due.due("sets", x.sets(0, 0) * 10 + x.sets(1, 0), 0);
            Due.due("laughs", x.laughs(12, true, 1), 7);
            Due.due("takings", x.price(true), 10);
            Due.due("whose", x.whose(), 1);
        }
    }

    private static void backTwice() {
        IronedOut x = full();
        x.image();
        change(x);
        x.back();
        change(x);
        Due.due("it stays", x.back(), 3);
        same(x);
        change(x);
        Due.due("another image", x.image(), 63);
        x.back();
        Due.due("HOUR", x.is(0), 63);
        Due.due("CREASES", x.is(3), 4);
    }

    private static void tapeAndFaultStay() {
        IronedOut x = full();
        x.image();
        Due.text(x, "dump;");
        x.feed(0x64616d70, 0x20313b20, 0x20202020, 0x20202020, 0x20202020);
        x.back();
        Due.due("bytes", x.about(9), 20);
        Due.due("fault", x.fault(0), 1);
        Due.due("place", x.fault(1), 0);
        Due.due("the tape is read", x.text(), 1);
        Due.due("played", x.played(1), -1);
        Due.due("STEPS", x.about(3), 5);
    }

    private static void textsBehindBack() {
        IronedOut x = full();
        x.image();
        Due.due("text", Due.text(x, "price 1;"), 1);
        Due.due("text", Due.text(x, "price 2;"), 2);
        Due.due("by", x.by(2), true);
        x.back();
        Due.due("TEXTS", x.about(1), 1);
        Due.due("THE TEXT", x.about(2), 0);
        Due.due("by", x.by(1), false);
        Due.due("played", x.played(1), -2);
        Due.due("another text", Due.text(x, "price 3;price"), -1);
        Due.due("another text", Due.text(x, "price 3;"), 1);
        x.by(1);
        Due.due("price", x.ofCrease(0, 8), 3);
        x.by(0);
        Due.due("presses", x.ofCrease(0, 6), 2);
    }

    private static void stepsBehindBack() {
        IronedOut x = full();
        x.hour(60);
        x.press(0);
        x.image();
        for (int i = 0; i < 30; i++) {
            x.undo();
        }
        x.pattern(0);
        x.damp(3);
        Due.due("back()", x.back(), 63);
        Due.due("STEPS", x.about(3), 30);
        Due.due("undo", x.undo(), 29);
        Due.due("DEPTH", x.ofCrease(0, 2), 5);
        Due.due("undo", x.undo(), 28);
        Due.due("HOUR", x.is(0), 62);
        x.back();
        for (int i = 29; i >= 0; i--) {
            Due.due("undo", x.undo(), i);
            Due.due("HOUR", x.is(0), i < 29 ? 34 + i : 63);
        }
        x.back();
        x.hour(2);
        for (int i = 0; i < 30; i++) {
            x.undo();
        }
        Due.due("HOUR", x.is(0), 36);
        Due.due("none", x.undo(), -1);
    }

    private static void ofOtherObjects() {
        IronedOut x = full();
        IronedOut y = new IronedOut();
        x.image();
        y.back();
        Due.due("apart", y.about(0) + y.about(1), 0);
        Due.text(y, "presses 7;");
        same(x);
    }
}
