import java.util.ArrayList;
import java.util.List;
import java.util.function.Supplier;
import java.util.function.ToLongFunction;

/** Two objects with the same calls behind them, one with a call more: what the call left as it was. */
final class Twins {
    /** A call with one argument that is looked at. */
    interface Asked {
        long of(IronedOut x, int value);
    }

    // An object answers 512 calls; those that make it stay under a hundred.
    private static final int MOST_SEEN = 410;

    private final IronedOut x;
    private final List<String> seen = new ArrayList<>();

    private Twins(IronedOut x) {
        this.x = x;
    }

    /** The call answers this, and leaves all as it was. */
    static void leaves(String call, Supplier<IronedOut> made, ToLongFunction<IronedOut> asked, long want) {
        IronedOut with = made.get();
        Due.due(call, asked.applyAsLong(with), want);
        alike(call + " leaves all as it was", with, made.get());
    }

    /** Each of these values, and the farthest ones, is refused, and leaves all as it was. */
    static void refused(String call, Supplier<IronedOut> made, Asked asked, long refusal, int... values) {
        for (int value : values) {
            leaves(call + " of " + value, made, x -> asked.of(x, value), refusal);
        }
        for (int far : new int[] {Integer.MIN_VALUE, Integer.MIN_VALUE + 1, 1 << 16, 1 << 30, Integer.MAX_VALUE}) {
            leaves(call + " of " + far, made, x -> asked.of(x, far), refusal);
        }
    }

    /** Each of these values is taken. */
    static void taken(String call, Supplier<IronedOut> made, Asked asked, long refusal, int... values) {
        for (int value : values) {
            Due.due(call + " of " + value + " refused", asked.of(made.get(), value) == refusal, false);
        }
    }

    /** All that can be asked of the two is alike. Both are used up by it. */
    static void alike(String call, IronedOut one, IronedOut other) {
        List<String> first = all(one);
        List<String> second = all(other);
        for (int i = 0; i < Math.max(first.size(), second.size()); i++) {
            String a = i < first.size() ? first.get(i) : "nothing";
            String b = i < second.size() ? second.get(i) : "nothing";
            if (!a.equals(b)) {
                Due.due(call + ": " + a + " and " + b, false, true);
                return;
            }
        }
        Due.due(call, true, true);
    }

    private static List<String> all(IronedOut x) {
        Twins twin = new Twins(x);
        twin.told();
        twin.persons();
        twin.creases();
        twin.lists();
        twin.tape();
        twin.steps();
        twin.image();
        Due.due("calls to see all, " + twin.seen.size(), twin.seen.size() <= MOST_SEEN, true);
        return twin.seen;
    }

    private void see(String call, long answer) {
        seen.add(call + " = " + answer);
    }

    private void told() {
        for (int what = 0; what <= 9; what++) {
            see("about " + what, x.about(what));
        }
        for (int what = 0; what <= 3; what++) {
            see("is " + what, x.is(what));
        }
        int booked = x.book(-1, 0);
        see("booked", booked);
        for (int i = 0; i < booked; i++) {
            see("HOUR and CREASE in the book, " + i, x.book(i, 0) * 12L + x.book(i, 1));
            see("what in the book, " + i, x.book(i, 2));
        }
        see("blank", x.blank());
    }

    private void persons() {
        int persons = x.about(0);
        for (int person = 0; person < persons; person++) {
            for (int what = 0; what <= 5; what++) {
                see("of " + person + ", " + what, x.of(person, what));
            }
            see("sets of " + person, x.sets(person, 0));
            see("flat of " + person, x.flat(person, 1, 10));
        }
    }

    private void creases() {
        int creases = x.is(3);
        for (int crease = 0; crease < creases; crease++) {
            for (int what = 0; what <= 8; what++) {
                see("ofCrease " + crease + ", " + what, x.ofCrease(crease, what));
            }
            see("hanging " + crease, x.hanging(crease));
        }
    }

    private void lists() {
        see("cut", x.cut(false));
        see("hands", x.hands(2, -1));
        int work = x.about(5);
        for (int i = 0; i < work; i++) {
            see("hand of " + i, x.hands(2, i));
        }
        int nephews = x.about(7);
        for (int i = 0; i < nephews; i++) {
            see("laughs of " + i, x.laughs(97, false, i));
        }
        see("price", x.price(false));
        see("takings", x.price(true));
        see("whose", x.whose());
    }

    private void tape() {
        see("fault", x.fault(0));
        see("place", x.fault(1));
        int texts = x.about(1);
        see("text", x.text());
        see("fault of the tape", x.fault(0));
        see("place in the tape", x.fault(1));
        for (int text = 0; text <= texts; text++) {
            see("by " + text, x.by(text) ? 1 : 0);
            see("price by " + text, x.ofCrease(0, 8));
        }
    }

    private void steps() {
        int steps = x.about(3);
        for (int i = 0; i <= steps; i++) {
            see("undo", x.undo());
            see("X", x.is(2));
            see("there", x.of(0, 3));
        }
        see("HOUR", x.is(0));
        see("COINS", x.of(0, 1));
    }

    private void image() {
        see("back", x.back());
        see("PERSONS in the image", x.about(0));
        see("CREASES in the image", x.is(3));
        see("there in the image", x.of(0, 3));
    }
}
