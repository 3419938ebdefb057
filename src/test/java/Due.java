/** Counts the answers that are not as due, and writes texts to the tape. */
final class Due {
    private static int asked = 0;
    private static int wrong = 0;

    private Due() {
    }

    static void due(String call, long got, long want) {
        asked++;
        if (got != want) {
            wrong++;
            System.out.println(call + " answered " + got + ", due is " + want);
        }
    }

    static void due(String call, boolean got, boolean want) {
        due(call, got ? 1 : 0, want ? 1 : 0);
    }

    /** The tape is this text then. */
    static void tape(IronedOut x, byte[] bytes) {
        x.end(0);
        int[] fives = new int[5];
        for (int from = 0; from < bytes.length; from += 20) {
            for (int i = 0; i < 5; i++) {
                fives[i] = 0;
                for (int j = 0; j < 4; j++) {
                    int at = from + i * 4 + j;
                    fives[i] = fives[i] << 8 | (at < bytes.length ? bytes[at] & 255 : 0);
                }
            }
            x.feed(fives[0], fives[1], fives[2], fives[3], fives[4]);
        }
        x.end(bytes.length);
    }

    static void tape(IronedOut x, String text) {
        tape(x, text.getBytes(java.nio.charset.StandardCharsets.ISO_8859_1));
    }

    static int text(IronedOut x, String text) {
        tape(x, text);
        return x.text();
    }

    static void faulty(String text, int fault, int place) {
        IronedOut x = new IronedOut();
        due("text of " + text, text(x, text), -1);
        due("fault of " + text, x.fault(0), fault);
        due("place in " + text, x.fault(1), place);
        due("texts behind " + text, x.about(1), 0);
    }

    static void sound(String text) {
        IronedOut x = new IronedOut();
        due("text of " + text, text(x, text), 0);
        due("fault of " + text, x.fault(0), 0);
        due("place in " + text, x.fault(1), -1);
    }

    /** What a law's SUM is, asked by the price of a CREASE; 0 .. 9999. */
    static void worked(IronedOut x, int crease, String sum, int want) {
        x.image();
        due("text of price " + sum, text(x, "price " + sum + ";") >= 0, true);
        x.by(x.about(1) - 1);
        due("price " + sum, x.ofCrease(crease, 8), want);
        x.back();
    }

    static void finish() {
        System.out.println(wrong == 0 ? asked + " answers are as due" : wrong + " answers are not as due");
        if (wrong != 0) {
            System.exit(1);
        }
    }
}
