import java.nio.charset.StandardCharsets;
import java.util.Random;

/** Runs of 512 calls by chance, always the same ones, each answered by IronedOut and by Model. */
public final class ModelTest {
    private static final int CALLS = 512;
    // A text is told by no more calls than this.
    private static final int CALLS_OF_A_TEXT = 30;
    private static final int MOST_BYTES = 340;
    private static final String[] WORDS = {"presses", "scorches", "price", "person", "coins", "crease", "year", "depth",
        "tie", "to", "heat", "press", "pattern", "damp", "hour", "turned", "deep", "if", "then", "else", "end", "or",
        "and", "not", "who", "skin", "worth", "ties", "<", "<=", ">", ">=", "=", "#", "+", "-", "*", "/", "(", ")", ";",
        "0", "1", "7", "12", "9999", "10000", "@", "Hour"};

    private final Random chance;
    private final IronedOut x = new IronedOut();
    private final Model model = new Model();
    private final StringBuilder log = new StringBuilder();
    private int calls = 0;
    private boolean failed = false;

    private ModelTest(long seed) {
        chance = new Random(seed);
    }

    public static void main(String[] args) {
        int runs = args.length > 0 ? Integer.parseInt(args[0]) : 400;
        texts(runs * 50);
        long from = args.length > 1 ? Long.parseLong(args[1]) : 1;
        int bad = 0;
        for (long seed = from; seed < from + runs && bad < 3; seed++) {
            ModelTest run = new ModelTest(seed);
            run.run();
            Due.due("run " + seed, run.failed, false);
            if (run.failed) {
                bad++;
                System.out.println(run.log);
            }
        }
        Due.finish();
    }

    /** Texts alone, on new objects: the FAULT, its place, and what the laws ask for. */
    private static void texts(int count) {
        for (int i = 0; i < count; i++) {
            ModelTest run = new ModelTest(i);
            run.twoPersons();
            String text = run.chance.nextInt(4) == 0 ? run.deeds() : run.laws();
            for (int j = run.chance.nextInt(3); j > 0; j--) {
                text = run.mutated(text);
            }
            run.write(text.length() > 300 ? text.substring(0, 300) : text);
            run.same("by(0)", run.x.by(0), run.model.by(0));
            for (int crease = 0; crease < 3; crease++) {
                for (int what = 6; what <= 8; what++) {
                    run.same(told("ofCrease", crease, what), run.x.ofCrease(crease, what),
                        run.model.ofCrease(crease, what));
                }
            }
            Due.due("text " + i + (run.failed ? "\n" + run.log : ""), run.failed, false);
        }
    }

    private void twoPersons() {
        for (int i = 0; i < 2; i++) {
            int skin = chance.nextInt(3);
            int coins = chance.nextInt(300);
            same("person", x.person(skin, coins), model.person(skin, coins));
        }
        for (int i = 0; i < 3; i++) {
            int year = chance.nextInt(100);
            int depth = 1 + chance.nextInt(9);
            int worth = chance.nextInt(19) - 9;
            same("crease", x.crease(i % 2, year, depth, worth), model.crease(i % 2, year, depth, worth));
        }
        same("tie", x.tie(1, 0), model.tie(1, 0));
        int hours = 1 + chance.nextInt(60);
        same("hour", x.hour(hours), model.hour(hours));
    }

    private void run() {
        int persons = chance.nextInt(4) + 1;
        for (int i = 0; i < persons; i++) {
            call(0);
        }
        int creases = chance.nextInt(13);
        for (int i = 0; i < creases; i++) {
            call(1);
        }
        int ties = chance.nextInt(8);
        for (int i = 0; i < ties; i++) {
            call(2);
        }
        same("image()", x.image(), model.image());
        while (calls <= CALLS - CALLS_OF_A_TEXT && !failed) {
            call(chance.nextInt(60));
        }
    }

    /** Mostly one of these; now and then one beside them, or far off. */
    private int pick(int least, int most) {
        int kind = chance.nextInt(40);
        if (kind == 0) {
            return least - 1;
        }
        if (kind == 1) {
            return most + 1;
        }
        if (kind == 2) {
            int[] far = {Integer.MIN_VALUE, Integer.MAX_VALUE, -1, 1 << 20, 32, 33};
            return far[chance.nextInt(far.length)];
        }
        return least + chance.nextInt(most - least + 1);
    }

    private int pickPerson() {
        return chance.nextInt(12) == 0 ? pick(0, 4) : pick(0, Math.max(0, model.about(0) - 1));
    }

    private int pickCrease() {
        return chance.nextInt(12) == 0 ? pick(0, 11) : pick(0, Math.max(0, model.is(3) - 1));
    }

    private boolean coin() {
        return chance.nextBoolean();
    }

    private void same(String call, long got, long want) {
        calls++;
        log.append(call).append(" -> ").append(got).append('\n');
        if (got != want) {
            failed = true;
            log.append("    the model: ").append(want).append('\n');
        }
    }

    private void same(String call, boolean got, boolean want) {
        same(call, got ? 1 : 0, want ? 1 : 0);
    }

    private static String told(String name, int... args) {
        StringBuilder line = new StringBuilder(name).append('(');
        for (int i = 0; i < args.length; i++) {
            line.append(i > 0 ? ", " : "").append(args[i]);
        }
        return line.append(')').toString();
    }

    private void call(int which) {
        if (which < 15) {
            tells(which);
        } else if (which < 32) {
            asks(which);
        } else {
            more(which);
        }
    }

    private void tells(int which) {
        int a;
        int b;
        switch (which) {
            case 0:
                a = pick(0, 2);
                b = coin() ? pick(0, 9999) : pick(0, 60);
                same(told("person", a, b), x.person(a, b), model.person(a, b));
                break;
            case 1:
                a = pickPerson();
                b = coin() ? pick(0, 99) : pick(0, 20);
                int depth = coin() ? pick(1, 9) : pick(1, 3);
                int worth = pick(-9, 9);
                same(told("crease", a, b, depth, worth), x.crease(a, b, depth, worth), model.crease(a, b, depth, worth));
                break;
            case 2:
                a = pickCrease();
                b = pickCrease();
                same(told("tie", a, b), x.tie(a, b), model.tie(a, b));
                break;
            case 3:
                a = pick(0, 9);
                same(told("heat", a), x.heat(a), model.heat(a));
                break;
            case 4:
                String text = mutated(coin() ? deeds() : laws());
                write(text.length() > MOST_BYTES ? text.substring(0, MOST_BYTES) : text);
                break;
            case 5: case 6:
                same(told("undo"), x.undo(), model.undo());
                break;
            case 7:
                a = pick(-1, 3);
                same(told("by", a), x.by(a), model.by(a));
                break;
            case 8:
                a = pick(0, 3);
                same(told("played", a), x.played(a), model.played(a));
                break;
            case 9:
                a = pick(0, 9999);
                b = pick(1, 40);
                same(told("seasons", a, b), x.seasons(a, b), model.seasons(a, b));
                break;
            case 10:
                same("undo()", x.undo(), model.undo());
                break;
            case 11:
                if (chance.nextInt(4) == 0) {
                    same("image()", x.image(), model.image());
                }
                break;
            case 12:
                if (chance.nextInt(4) == 0) {
                    same("back()", x.back(), model.back());
                }
                break;
            case 13:
                a = coin() ? pick(1, 12) : pick(1, 60);
                same(told("hour", a), x.hour(a), model.hour(a));
                break;
            default:
                a = pick(1, 9);
                same(told("damp", a), x.damp(a), model.damp(a));
        }
    }

    private void asks(int which) {
        int a = pickPerson();
        int b = pickCrease();
        switch (which) {
            case 15: case 16: case 17: case 18:
                same(told("press", b), x.press(b), model.press(b));
                break;
            case 19: case 20:
                same(told("pattern", b), x.pattern(b), model.pattern(b));
                break;
            case 21: case 22:
                int what = pick(0, 5);
                same(told("of", a, what), x.of(a, what), model.of(a, what));
                break;
            case 23: case 24: case 25:
                what = pick(0, 8);
                same(told("ofCrease", b, what), x.ofCrease(b, what), model.ofCrease(b, what));
                break;
            case 26:
                what = pick(0, 3);
                same(told("is", what), x.is(what), model.is(what));
                break;
            case 27: case 28:
                int i = pick(-1, model.book(-1, 0));
                what = pick(0, 2);
                same(told("book", i, what), x.book(i, what), model.book(i, what));
                break;
            case 29:
                same(told("hanging", b), x.hanging(b), model.hanging(b));
                break;
            case 30:
                int n = pick(1, 60);
                same(told("foretold", n, b), x.foretold(n, b), model.foretold(n, b));
                break;
            default:
                what = pick(0, 9);
                same(told("about", what), x.about(what), model.about(what));
        }
    }

    private void more(int which) {
        int a = pickPerson();
        int b = pickCrease();
        int c;
        boolean yes = coin();
        switch (which) {
            case 32: case 33:
                b = chance.nextInt(12) == 0 ? -1 : b;
                c = pick(0, 1);
                same(told("want", b, c), x.want(b, c), model.want(b, c));
                break;
            case 34: case 35:
                same("cut(" + yes + ")", x.cut(yes), model.cut(yes));
                break;
            case 36:
                a = chance.nextInt(12) == 0 ? -1 : pick(1, coin() ? 99 : 5);
                same(told("board", a), x.board(a), model.board(a));
                break;
            case 37:
                a = pick(1, 4);
                b = pick(-1, 7);
                same(told("hands", a, b), x.hands(a, b), model.hands(a, b));
                break;
            case 38: case 39:
                b = coin() ? pick(0, 3) : pick(0, 12);
                c = coin() ? pick(1, 100) : pick(1, 12);
                same(told("flat", a, b, c), x.flat(a, b, c), model.flat(a, b, c));
                break;
            case 40: case 41:
                seam();
                break;
            case 42: case 43:
                c = pick(0, 2);
                same(told("sets", a, c), x.sets(a, c), model.sets(a, c));
                break;
            case 44: case 45:
                same(told("next", a), x.next(a), model.next(a));
                break;
            case 46:
                a = chance.nextInt(12) == 0 ? -1 : pick(1, coin() ? 999 : 5);
                same(told("heir", a), x.heir(a), model.heir(a));
                break;
            case 47: case 48:
                a = pick(0, coin() ? 99 : 9);
                b = pick(0, 5);
                same(told("laughs", a, yes ? 1 : 0, b), x.laughs(a, yes, b), model.laughs(a, yes, b));
                break;
            case 49:
                a = chance.nextInt(12) == 0 ? -1 : pick(0, coin() ? 999 : 5);
                same(told("offer", a), x.offer(a), model.offer(a));
                break;
            default:
                others(which, a, b, yes);
        }
    }

    private void others(int which, int a, int b, boolean yes) {
        int c;
        switch (which) {
            case 50:
                same("price(" + yes + ")", x.price(yes), model.price(yes));
                break;
            case 51:
                int n = pick(1, 9);
                int k = pick(0, 9);
                c = pick(0, 10);
                int d = pick(0, 10);
                same(told("wrongly", n, k, c, d, yes ? 1 : 0), x.wrongly(n, k, c, d, yes), model.wrongly(n, k, c, d, yes));
                break;
            case 52: case 53:
                b = chance.nextInt(6) == 0 ? -1 : b;
                c = coin() ? pick(0, 9999) : model.ofCrease(b, 8);
                same(told("priced", b, c), x.priced(b, c), model.priced(b, c));
                break;
            case 54: case 55:
                same("whose()", x.whose(), model.whose());
                break;
            case 56:
                b = coin() ? -1 : b;
                c = pick(0, 2);
                same(told("befell", b, c), x.befell(b, c), model.befell(b, c));
                break;
            case 57:
                same(told("eldest", a), x.eldest(a), model.eldest(a));
                break;
            case 58:
                same("blank()", x.blank(), model.blank());
                break;
            default:
                c = pickPerson();
                same(told("shared", a, c), x.shared(a, c), model.shared(a, c));
        }
    }

    /** Often one that can be, of years and depths that are there. */
    private void seam() {
        int a = chance.nextInt(6) == 0 ? -1 : pick(0, 99);
        int b = coin() ? pick(0, 99) : a + chance.nextInt(30);
        int c = coin() ? pick(0, 20) : 0;
        int some = chance.nextInt(4096);
        for (int i = 0; i < model.is(3) && c == 0; i++) {
            boolean in = model.ofCrease(i, 1) >= a && model.ofCrease(i, 1) <= b && model.ofCrease(i, 0) == 0;
            some = in ? some : some & ~(1 << i);
        }
        for (int i = 0; i < model.is(3) && some > 0; i++) {
            c += (some >> i & 1) == 1 ? model.foretold(60, i) : 0;
        }
        same(told("seam", a, b, c), x.seam(a, b, c), model.seam(a, b, c));
    }

    private void write(String text) {
        int from = model.about(9);
        if (from > 0) {
            int n = pick(0, from);
            same(told("end", n), x.end(n), model.end(n));
            if (chance.nextInt(5) > 0) {
                same("end(0)", x.end(0), model.end(0));
            }
        }
        byte[] bytes = text.getBytes(StandardCharsets.ISO_8859_1);
        int start = model.about(9);
        for (int at = 0; at < bytes.length; at += 20) {
            int[] f = new int[5];
            for (int i = 0; i < 20; i++) {
                f[i / 4] = f[i / 4] << 8 | (at + i < bytes.length ? bytes[at + i] & 255 : ' ');
            }
            same(told("feed", f), x.feed(f[0], f[1], f[2], f[3], f[4]), model.feed(f[0], f[1], f[2], f[3], f[4]));
        }
        if (chance.nextInt(5) > 0) {
            same(told("end", start + bytes.length), x.end(start + bytes.length), model.end(start + bytes.length));
        }
        log.append(text).append('\n');
        same("text()", x.text(), model.text());
        same("fault(0)", x.fault(0), model.fault(0));
        same("fault(1)", x.fault(1), model.fault(1));
        same("about(9)", x.about(9), model.about(9));
    }

    private String mutated(String text) {
        int kind = chance.nextInt(12);
        int at = chance.nextInt(text.length() + 1);
        if (kind == 0) {
            return text.substring(0, at);
        }
        if (kind == 1) {
            return text.substring(0, at) + (char) chance.nextInt(256) + text.substring(at);
        }
        if (kind <= 3) {
            return text.substring(0, at) + " " + WORDS[chance.nextInt(WORDS.length)] + " " + text.substring(at);
        }
        if (kind == 4) {
            return text.substring(0, at) + text.substring(Math.min(text.length(), at + chance.nextInt(5)));
        }
        return text;
    }

    private String deeds() {
        StringBuilder text = new StringBuilder();
        int clauses = chance.nextInt(chance.nextInt(6) == 0 ? 30 : 12);
        for (int i = 0; i < clauses; i++) {
            switch (chance.nextInt(12)) {
                case 0: text.append("person " + chance.nextInt(3) + " coins " + chance.nextInt(100)); break;
                case 1:
                    text.append("crease " + chance.nextInt(3) + " year " + chance.nextInt(100) + " depth "
                        + (1 + chance.nextInt(9)));
                    break;
                case 2: text.append("tie " + chance.nextInt(12) + " to " + chance.nextInt(12)); break;
                case 3: text.append("heat" + chance.nextInt(10)); break;
                case 4: text.append("pattern " + chance.nextInt(12)); break;
                case 5: case 6: text.append("damp\n" + (1 + chance.nextInt(9))); break;
                case 7: text.append("hour " + (1 + chance.nextInt(60))); break;
                case 8: text.append(coin() ? "heat 3" : laws()); break;
                default: text.append("press " + chance.nextInt(12));
            }
            text.append(text.toString().endsWith(";") ? "" : ";");
        }
        return text.toString();
    }

    private String laws() {
        String[] names = {"presses", "scorches", "price"};
        StringBuilder text = new StringBuilder();
        int first = chance.nextInt(3);
        int count = 1 + chance.nextInt(3);
        for (int i = 0; i < count; i++) {
            String name = names[(first + i) % 3];
            String sum = sum(1 + chance.nextInt(7), name);
            if (sum.length() > 90 || coin()) {
                sum = sum(2, name);
            }
            text.append(name).append(' ').append(sum).append(coin() ? ";" : " ;");
        }
        return text.toString();
    }

    private String sum(int deep, String law) {
        StringBuilder text = new StringBuilder(product(deep, law));
        while (chance.nextInt(3) == 0) {
            text.append(coin() ? "+" : " - ").append(product(deep, law));
        }
        return text.toString();
    }

    private String product(int deep, String law) {
        StringBuilder text = new StringBuilder(one(deep, law));
        while (chance.nextInt(4) == 0) {
            text.append(coin() ? "*" : " / ").append(one(deep, law));
        }
        return text.toString();
    }

    private String one(int deep, String law) {
        switch (chance.nextInt(deep > 0 ? 12 : 5)) {
            case 0: return String.valueOf(chance.nextInt(10));
            case 1: return String.valueOf(chance.nextInt(chance.nextInt(9) == 0 ? 10100 : 100));
            case 2: case 3: case 4:
                String[] names = {"hour", "heat", "who", "skin", "year", "depth", "worth", "coins", "ties"};
                int most = law.equals("price") ? 9 : 7;
                int at = chance.nextInt(law.equals("scorches") && coin() || chance.nextInt(30) == 0 ? 9 : most);
                return law.equals("scorches") && at == 7 && chance.nextInt(9) > 0 ? "ties" : names[at];
            case 5: case 6: return "(" + sum(deep - 1, law) + ")";
            case 7: return "-" + one(deep - 1, law);
            case 8: return "turned " + one(deep - 1, law);
            case 9: return "deep " + one(deep - 1, law);
            default:
                return "if " + either(deep - 1, law) + " then " + sum(deep - 1, law) + " else " + sum(deep - 1, law)
                    + " end";
        }
    }

    private String either(int deep, String law) {
        StringBuilder text = new StringBuilder(ask(deep, law));
        while (chance.nextInt(3) == 0) {
            text.append(coin() ? " or " : " and ").append(ask(deep, law));
        }
        return text.toString();
    }

    private String ask(int deep, String law) {
        if (deep > 0 && chance.nextInt(5) == 0) {
            return "not " + ask(deep - 1, law);
        }
        String[] signs = {"<", "<=", ">", ">=", "=", "#"};
        return sum(deep / 2, law) + signs[chance.nextInt(6)] + sum(deep / 2, law);
    }
}
