/**
 * The edges of promises 1 to 5, 18 to 20, 22, 40 to 42 and 45, and of the terms behind them: a test a sentence, which
 * stands on top of it.
 */
public final class EdgesOfTellingTest {
    public static void main(String[] args) {
        noPersons();
        atFirst();
        theImageIsThis();
        fivePersons();
        skins();
        coins();
        twelveCreases();
        creaseOfAPerson();
        years();
        depths();
        worths();
        atFirstThere();
        tieOne();
        tieOther();
        tieUnlike();
        tieThatIsSo();
        tieThroughOthersIsNotSo();
        heats();
        hangingOfOthers();
        hangingItToo();
        hangingOnSuchOnes();
        ofOtherPersons();
        ofOtherWhat();
        ofAPersonWithoutCreases();
        ofThoseThere();
        spans();
        ofOtherCreases();
        ofCreaseOtherWhat();
        onWhatItHangs();
        isOthers();
        eldestOfOthers();
        eldestNone();
        eldestOfLikeOnes();
        eldestAtTheEnds();
        blankOfNone();
        blankOfAll();
        sharedOfOthers();
        sharedUnlike();
        sharedTens();
        sharedOfThoseThere();
        aboutOthers();
        aboutEmptyAndFull();
        allOfOnePerson();
        Due.finish();
    }

    private static IronedOut persons(int n) {
        IronedOut x = new IronedOut();
        for (int i = 0; i < n; i++) {
            x.person(i % 3, 100 + i);
        }
        return x;
    }

    private static IronedOut creases(int n) {
        IronedOut x = persons(2);
        for (int i = 0; i < n; i++) {
            x.crease(i % 2, 10 * i % 100, 9 - i % 9, i - 6);
        }
        return x;
    }

    /** With a STEP, a TIE, a TEXT, something on the tape and a line in the BOOK, so that there is something to leave. */
    private static IronedOut some() {
        IronedOut x = creases(4);
        x.tie(3, 2);
        x.by(Due.text(x, "presses 9; price depth + 1;"));
        x.image();
        x.press(1);
        x.hour(2);
        Due.tape(x, "damp 1;");
        return x;
    }

    // Promise 1: "No PERSONS".
    private static void noPersons() {
        IronedOut x = new IronedOut();
        Due.due("PERSONS", x.about(0), 0);
        Due.due("of the first", x.of(0, 0), -1000);
        Due.due("eldest", x.eldest(0), -1);
        Due.due("sets", x.sets(0, 0), -1);
        Due.due("next", x.next(0), -1);
        Due.due("flat", x.flat(0, 0, 1), -1);
        Due.due("shared", x.shared(0, 1), -1);
        Due.due("press", x.press(0), -1);
        Due.due("foretold", x.foretold(1, 0), -1);
        Due.due("WHAT TO PRESS of nothing", x.cut(false), 0);
        Due.due("WORTH of nothing", x.cut(true), 0);
        Due.due("whose", x.whose(), 0);
        Due.due("befell", x.befell(-1, 0), 0);
    }

    // "HEAT (at first 5). HOUR (at first 0). X: at first 167." "THE TEXT (at first none)".
    private static void atFirst() {
        IronedOut x = new IronedOut();
        Due.due("HEAT", x.is(1), 5);
        Due.due("HOUR", x.is(0), 0);
        Due.due("X", x.is(2), 167);
        Due.due("CREASES", x.is(3), 0);
        Due.due("THE TEXT", x.about(2), -1);
        Due.due("BOOK", x.book(-1, 0), 0);
        Due.due("undo", x.undo(), -1);
    }

    // Promise 1: "THE IMAGE is this".
    private static void theImageIsThis() {
        Twins.leaves("back()", IronedOut::new, IronedOut::back, 0);
        IronedOut x = some();
        Due.due("back()", x.back(), 0);
        x = creases(4);
        x.heat(9);
        x.by(Due.text(x, "price 1;"));
        x.hour(60);
        x.want(0, 1);
        x.board(1);
        x.seam(0, 1, 1);
        x.heir(1);
        x.offer(1);
        x.priced(0, 1);
        x.end(0);
        Due.due("back()", x.back(), 0);
        IronedOut read = new IronedOut();
        Due.text(read, "price 1;");
        read.back();
        Twins.alike("THE IMAGE of a new object", x, read);
    }

    // "PERSONS 0 .. 4 (told one by one)"; promise 2: "the number. NONE .. if there are 5."
    private static void fivePersons() {
        IronedOut x = new IronedOut();
        for (int i = 0; i <= 4; i++) {
            Due.due("PERSONS", x.about(0), i);
            Due.due("a PERSON", x.person(0, i), i);
        }
        Due.due("the last one", x.of(4, 1), 4);
        Twins.leaves("a sixth", () -> persons(5), y -> y.person(0, 0), -1);
    }

    // "SKIN 0 cotton, 1 wool, 2 silk"; promise 2: "NONE for others".
    private static void skins() {
        Twins.taken("SKIN", () -> persons(1), (x, skin) -> x.person(skin, 0), -1, 0, 1, 2);
        Twins.refused("SKIN", EdgesOfTellingTest::some, (x, skin) -> x.person(skin, 0), -1, -1, 3);
        for (int skin = 0; skin <= 2; skin++) {
            IronedOut x = new IronedOut();
            x.person(skin, 0);
            Due.due("SKIN", x.of(0, 0), skin);
        }
    }

    // "COINS 0 .. 9999"; promise 2: "NONE for others".
    private static void coins() {
        Twins.taken("COINS", () -> persons(1), (x, coins) -> x.person(0, coins), -1, 0, 1, 9998, 9999);
        Twins.refused("COINS", EdgesOfTellingTest::some, (x, coins) -> x.person(0, coins), -1, -1, 10000);
        IronedOut x = new IronedOut();
        x.person(0, 0);
        x.person(0, 9999);
        Due.due("the least", x.of(0, 1), 0);
        Due.due("the most", x.of(1, 1), 9999);
    }

    // "CREASES 0 .. 11 (told one by one)"; promise 3: "its number. NONE .. if there are 12."
    private static void twelveCreases() {
        IronedOut x = persons(1);
        for (int i = 0; i <= 11; i++) {
            Due.due("CREASES", x.is(3), i);
            Due.due("a CREASE", x.crease(0, 0, 1, 0), i);
        }
        Due.due("CREASES", x.is(3), 12);
        Due.due("the last one", x.ofCrease(11, 2), 1);
        Twins.leaves("a 13th", () -> creases(12), y -> y.crease(0, 0, 1, 0), -1);
    }

    // "CREASES of a PERSON"; promise 3: "NONE for others".
    private static void creaseOfAPerson() {
        Twins.taken("PERSON", () -> persons(5), (x, person) -> x.crease(person, 0, 1, 0), -1, 0, 4);
        Twins.refused("PERSON", EdgesOfTellingTest::some, (x, person) -> x.crease(person, 0, 1, 0), -1, -1, 2, 4, 5);
        Twins.refused("PERSON of five", () -> persons(5), (x, person) -> x.crease(person, 0, 1, 0), -1, -1, 5);
        Twins.refused("PERSON of none", IronedOut::new, (x, person) -> x.crease(person, 0, 1, 0), -1, -1, 0);
    }

    // "YEAR 0 .. 99"
    private static void years() {
        Twins.taken("YEAR", () -> persons(1), (x, year) -> x.crease(0, year, 1, 0), -1, 0, 99);
        Twins.refused("YEAR", EdgesOfTellingTest::some, (x, year) -> x.crease(0, year, 1, 0), -1, -1, 100);
        IronedOut x = persons(1);
        x.crease(0, 0, 1, 0);
        x.crease(0, 99, 1, 0);
        Due.due("the first", x.ofCrease(0, 1), 0);
        Due.due("the last", x.ofCrease(1, 1), 99);
    }

    // "DEPTH 1 .. 9"
    private static void depths() {
        Twins.taken("DEPTH", () -> persons(1), (x, depth) -> x.crease(0, 0, depth, 0), -1, 1, 9);
        Twins.refused("DEPTH", EdgesOfTellingTest::some, (x, depth) -> x.crease(0, 0, depth, 0), -1, -1, 0, 10);
        IronedOut x = persons(1);
        x.crease(0, 0, 1, 0);
        x.crease(0, 0, 9, 0);
        Due.due("the least", x.ofCrease(0, 2), 1);
        Due.due("the most", x.ofCrease(1, 2), 9);
    }

    // "WORTH -9 .. 9"
    private static void worths() {
        Twins.taken("WORTH", () -> persons(1), (x, worth) -> x.crease(0, 0, 1, worth), -1, -9, -1, 0, 9);
        Twins.refused("WORTH", EdgesOfTellingTest::some, (x, worth) -> x.crease(0, 0, 1, worth), -1, -10, 10);
        IronedOut x = persons(1);
        x.crease(0, 0, 1, -9);
        x.crease(0, 0, 1, 9);
        x.crease(0, 0, 1, 9);
        Due.due("the least", x.ofCrease(0, 3), -9);
        Due.due("the most", x.ofCrease(1, 3), 9);
        Due.due("together", x.of(0, 4), 9);
    }

    // "how it is: 0 there, 1 gone, 2 scorched (at first there)".
    private static void atFirstThere() {
        IronedOut x = creases(12);
        for (int i = 0; i < 12; i++) {
            Due.due("there", x.ofCrease(i, 4), 0);
            Due.due("hangs on none", x.ofCrease(i, 5), 0);
            Due.due("HANGING: it alone", x.hanging(i), 1 << i);
        }
        Due.due("all are there", x.of(0, 3) | x.of(1, 3), 4095);
    }

    // Promise 4: "the first hangs on the other one: true. False for others"
    private static void tieOne() {
        Twins.taken("the first", () -> creases(12), (x, one) -> x.tie(one, 5) ? 1 : 0, 0, 0, 11);
        Twins.refused("the first", EdgesOfTellingTest::some, (x, one) -> x.tie(one, 1) ? 1 : 0, 0, -1, 4, 11, 12, 32, 33);
        Twins.refused("the first of none", IronedOut::new, (x, one) -> x.tie(one, 0) ? 1 : 0, 0, -1, 0, 1);
    }

    private static void tieOther() {
        Twins.taken("the other", () -> creases(12), (x, other) -> x.tie(5, other) ? 1 : 0, 0, 0, 11);
        Twins.refused("the other", EdgesOfTellingTest::some, (x, other) -> x.tie(1, other) ? 1 : 0, 0, -1, 4, 11, 12, 32);
    }

    // Promise 4: "(unlike ones)"
    private static void tieUnlike() {
        Twins.refused("itself", EdgesOfTellingTest::some, (x, one) -> x.tie(one, one) ? 1 : 0, 0, 0, 3);
    }

    // Promise 4: "and if it is so". The other way about isn't so.
    private static void tieThatIsSo() {
        Twins.leaves("it is so", EdgesOfTellingTest::some, x -> x.tie(3, 2) ? 1 : 0, 0);
        IronedOut x = some();
        Due.due("the other way about", x.tie(2, 3), true);
        Due.due("that is so, too", x.tie(2, 3), false);
    }

    // "all on which it hangs (itself, not through others)": what hangs through others isn't told.
    private static void tieThroughOthersIsNotSo() {
        IronedOut x = creases(3);
        x.tie(2, 1);
        x.tie(1, 0);
        Due.due("2 hangs on 0 through 1", x.hanging(0), 7);
        Due.due("not itself", x.ofCrease(2, 5), 2);
        Due.due("told", x.tie(2, 0), true);
        Due.due("itself", x.ofCrease(2, 5), 3);
    }

    // "HEAT 0 .. 9"; promise 5: "false for others".
    private static void heats() {
        Twins.taken("HEAT", EdgesOfTellingTest::some, (x, heat) -> x.heat(heat) ? 1 : 0, 0, 0, 1, 8, 9);
        Twins.refused("HEAT", EdgesOfTellingTest::some, (x, heat) -> x.heat(heat) ? 1 : 0, 0, -1, 10);
        IronedOut x = new IronedOut();
        x.heat(0);
        Due.due("the least", x.is(1), 0);
        x.heat(9);
        Due.due("the most", x.is(1), 9);
    }

    // Promise 22: "NONE for others".
    private static void hangingOfOthers() {
        Twins.taken("hanging", () -> creases(12), IronedOut::hanging, -1, 0, 11);
        Twins.refused("hanging", EdgesOfTellingTest::some, IronedOut::hanging, -1, -1, 4, 11, 12);
        Twins.refused("hanging of twelve", () -> creases(12), IronedOut::hanging, -1, -1, 12);
        Twins.refused("hanging of none", IronedOut::new, IronedOut::hanging, -1, -1, 0);
    }

    // "HANGING of a CREASE: it and all that hang on it".
    private static void hangingItToo() {
        IronedOut x = creases(12);
        for (int i = 1; i < 12; i++) {
            x.tie(i, 0);
        }
        Due.due("all", x.hanging(0), 4095);
        Due.due("it alone", x.hanging(11), 2048);
    }

    // "or on such ones": however far, and whatever was tied first.
    private static void hangingOnSuchOnes() {
        IronedOut x = creases(12);
        for (int i = 0; i < 11; i++) {
            x.tie(i, i + 1);
        }
        Due.due("through eleven", x.hanging(11), 4095);
        Due.due("it alone", x.hanging(0), 1);
        Due.due("a round", x.tie(11, 0), true);
        for (int i = 0; i < 12; i++) {
            Due.due("all in a round", x.hanging(i), 4095);
        }
        x = creases(12);
        for (int i = 0; i < 12; i += 2) {
            x.tie(i, i + 1);
        }
        for (int i = 9; i >= 1; i -= 2) {
            x.tie(i, i + 1);
        }
        Due.due("tied between those that are tied", x.hanging(11), 4095);
        Due.due("half of them", x.hanging(5), 63);
    }

    // Promise 18: "-1000 for others": PERSONS.
    private static void ofOtherPersons() {
        for (int what = 0; what <= 5; what++) {
            int asked = what;
            Due.due("of the last", persons(5).of(4, what) == -1000, false);
            Twins.refused("of, " + what, EdgesOfTellingTest::some, (x, person) -> x.of(person, asked), -1000, -1, 2, 4, 5);
            Twins.refused("of five, " + what, () -> persons(5), (x, person) -> x.of(person, asked), -1000, -1, 5);
        }
    }

    private static void ofOtherWhat() {
        Twins.taken("what", EdgesOfTellingTest::some, (x, what) -> x.of(0, what), -1000, 0, 5);
        Twins.refused("what", EdgesOfTellingTest::some, (x, what) -> x.of(0, what), -1000, -1, 6);
    }

    private static void ofAPersonWithoutCreases() {
        IronedOut x = creases(2);
        x.person(2, 0);
        int[] due = {2, 0, 0, 0, 0, 100};
        for (int what = 0; what <= 5; what++) {
            Due.due("of, " + what, x.of(2, what), due[what]);
        }
    }

    // Promise 18: "those that are there (bits), WORTH of these together": not one gone, not one scorched.
    private static void ofThoseThere() {
        IronedOut x = persons(1);
        x.crease(0, 10, 1, 9);
        x.crease(0, 20, 1, 7);
        x.crease(0, 30, 1, -9);
        x.press(0);
        x.by(Due.text(x, "scorches 10;"));
        x.press(1);
        Due.due("gone", x.ofCrease(0, 4), 1);
        Due.due("scorched", x.ofCrease(1, 4), 2);
        Due.due("CREASES", x.of(0, 2), 7);
        Due.due("there", x.of(0, 3), 4);
        Due.due("WORTH", x.of(0, 4), -9);
        x.press(2);
        Due.due("none there", x.of(0, 3), 0);
        Due.due("WORTH of none", x.of(0, 4), 0);
        Due.due("span without one", x.of(0, 5), 100);
        Due.due("CREASES", x.of(0, 2), 7);
    }

    // "The longest span without one: of YEARS 0 .. 99".
    private static void spans() {
        IronedOut x = persons(1);
        x.crease(0, 0, 1, 0);
        Due.due("behind the first YEAR", x.of(0, 5), 99);
        x.crease(0, 99, 1, 0);
        Due.due("between first and last", x.of(0, 5), 98);
        x.crease(0, 49, 1, 0);
        Due.due("two of like spans, and one less", x.of(0, 5), 49);
        x.crease(0, 50, 1, 0);
        Due.due("48 and 48", x.of(0, 5), 48);
        x = persons(2);
        x.crease(0, 99, 1, 0);
        Due.due("ahead of the last YEAR", x.of(0, 5), 99);
        x.crease(1, 50, 1, 0);
        Due.due("one of another PERSON is none", x.of(0, 5), 99);
    }

    // Promise 19: "-1000 for others": CREASES.
    private static void ofOtherCreases() {
        for (int what = 0; what <= 8; what++) {
            int asked = what;
            Due.due("of the last", creases(12).ofCrease(11, what) == -1000, false);
            Twins.refused("ofCrease, " + what, EdgesOfTellingTest::some, (x, crease) -> x.ofCrease(crease, asked), -1000,
                -1, 4, 11, 12);
            Twins.refused("ofCrease of twelve", () -> creases(12), (x, crease) -> x.ofCrease(crease, asked), -1000, -1, 12);
        }
    }

    private static void ofCreaseOtherWhat() {
        Twins.taken("what", EdgesOfTellingTest::some, (x, what) -> x.ofCrease(0, what), -1000, 0, 8);
        Twins.refused("what", EdgesOfTellingTest::some, (x, what) -> x.ofCrease(0, what), -1000, -1, 9);
    }

    // Promise 19: "5 on what it hangs (bits)": none, and all others.
    private static void onWhatItHangs() {
        IronedOut x = creases(12);
        for (int i = 0; i < 11; i++) {
            x.tie(11, i);
        }
        Due.due("on none", x.ofCrease(0, 5), 0);
        Due.due("on all others", x.ofCrease(11, 5), 2047);
    }

    // Promise 20: "0 HOUR, 1 HEAT, 2 X, 3 CREASES. -2 for others."
    private static void isOthers() {
        Twins.taken("is", EdgesOfTellingTest::some, IronedOut::is, -2, 0, 3);
        Twins.refused("is", EdgesOfTellingTest::some, IronedOut::is, -2, -1, 4);
    }

    // Promise 40: "NONE: none, and for others."
    private static void eldestOfOthers() {
        Twins.taken("eldest", EdgesOfTellingTest::some, IronedOut::eldest, -1, 0, 1);
        Twins.refused("eldest", EdgesOfTellingTest::some, IronedOut::eldest, -1, -1, 2, 5);
        Twins.refused("eldest of five", () -> persons(5), IronedOut::eldest, -1, -1, 5);
    }

    private static void eldestNone() {
        IronedOut x = persons(2);
        Due.due("without CREASES", x.eldest(0), -1);
        x.crease(0, 50, 1, 0);
        x.crease(0, 40, 1, 0);
        x.crease(1, 30, 1, 0);
        Due.due("the least YEAR", x.eldest(0), 1);
        x.press(1);
        Due.due("that is there: not gone", x.eldest(0), 0);
        x.by(Due.text(x, "scorches 10;"));
        x.press(0);
        Due.due("none is there: one gone, one scorched", x.eldest(0), -1);
        Due.due("the other's", x.eldest(1), 2);
    }

    // "of like ones the lowest"
    private static void eldestOfLikeOnes() {
        IronedOut x = persons(2);
        x.crease(1, 7, 1, 0);
        x.crease(0, 8, 1, 0);
        x.crease(0, 7, 1, 0);
        x.crease(0, 7, 1, 0);
        x.crease(0, 7, 1, 0);
        Due.due("the lowest of three", x.eldest(0), 2);
        x.press(2);
        Due.due("the lowest of two", x.eldest(0), 3);
    }

    // "the CREASE of the least YEAR": YEARS 0 .. 99.
    private static void eldestAtTheEnds() {
        IronedOut x = persons(1);
        x.crease(0, 99, 1, 0);
        Due.due("of the last YEAR", x.eldest(0), 0);
        x.crease(0, 98, 1, 0);
        x.crease(0, 0, 1, 0);
        x.crease(0, 1, 1, 0);
        Due.due("of the first YEAR", x.eldest(0), 2);
    }

    // "BLANK: PERSONS (bits) of whom no CREASE is there": without any, and with all.
    private static void blankOfNone() {
        Due.due("no PERSONS", new IronedOut().blank(), 0);
        IronedOut x = persons(5);
        Due.due("five without CREASES", x.blank(), 31);
        for (int i = 0; i < 5; i++) {
            x.crease(i, 0, 1, 0);
            Due.due("one less", x.blank(), 31 & -(2 << i));
        }
    }

    private static void blankOfAll() {
        IronedOut x = persons(2);
        x.crease(0, 1, 1, 0);
        x.crease(0, 1, 1, 0);
        x.crease(1, 1, 1, 0);
        x.press(0);
        Due.due("one is there yet", x.blank(), 0);
        x.by(Due.text(x, "scorches 10;"));
        x.press(1);
        Due.due("one gone, one scorched", x.blank(), 1);
        x.press(2);
        Due.due("all", x.blank(), 3);
    }

    // Promise 42: "NONE for others"
    private static void sharedOfOthers() {
        Twins.taken("the first", () -> persons(5), (x, a) -> x.shared(a, 2), -1, 0, 1, 3, 4);
        Twins.taken("the other", () -> persons(5), (x, b) -> x.shared(2, b), -1, 0, 1, 3, 4);
        Twins.refused("the first", EdgesOfTellingTest::some, (x, a) -> x.shared(a, 0), -1, -1, 2, 5);
        Twins.refused("the other", EdgesOfTellingTest::some, (x, b) -> x.shared(0, b), -1, -1, 2, 5);
        Twins.refused("the first of five", () -> persons(5), (x, a) -> x.shared(a, 0), -1, -1, 5);
    }

    // Promise 42: "(unlike ones)"
    private static void sharedUnlike() {
        Twins.refused("itself", EdgesOfTellingTest::some, (x, a) -> x.shared(a, a), -1, 0, 1, -1, 2);
    }

    // "tens of YEARS (YEAR by 10; bits)"
    private static void sharedTens() {
        int[][] years = {{0, 9, 1}, {9, 10, 0}, {10, 19, 2}, {19, 20, 0}, {89, 90, 0}, {90, 99, 512}, {0, 99, 0}};
        for (int[] y : years) {
            IronedOut x = persons(2);
            x.crease(0, y[0], 1, 0);
            Due.due("one has none", x.shared(0, 1), 0);
            x.crease(1, y[1], 1, 0);
            Due.due("YEARS " + y[0] + " and " + y[1], x.shared(0, 1), y[2]);
            Due.due("the other way about", x.shared(1, 0), y[2]);
        }
        IronedOut x = persons(2);
        for (int i = 0; i < 12; i++) {
            x.crease(i % 2, i / 2 * 10 + i % 2 * 9, 1, 0);
        }
        Due.due("six tens", x.shared(0, 1), 63);
        x = persons(3);
        x.crease(0, 5, 1, 0);
        x.crease(1, 15, 1, 0);
        x.crease(2, 5, 1, 0);
        x.crease(2, 15, 1, 0);
        Due.due("a third one's are nothing to it", x.shared(0, 1), 0);
        Due.due("shared with the third", x.shared(0, 2) * 10 + x.shared(2, 1), 12);
    }

    // "in which CREASES of both are there"
    private static void sharedOfThoseThere() {
        IronedOut x = persons(2);
        x.crease(0, 15, 1, 0);
        x.crease(1, 15, 1, 0);
        x.crease(1, 16, 1, 0);
        x.press(1);
        Due.due("one is there yet", x.shared(0, 1), 2);
        x.press(2);
        Due.due("gone", x.shared(0, 1), 0);
        x.pattern(2);
        Due.due("back", x.shared(0, 1), 2);
        x.by(Due.text(x, "scorches 10;"));
        x.press(0);
        Due.due("scorched", x.shared(0, 1), 0);
    }

    // Promise 45: "-2 for others."
    private static void aboutOthers() {
        Twins.taken("about", EdgesOfTellingTest::some, IronedOut::about, -2, 0, 9);
        Twins.refused("about", EdgesOfTellingTest::some, IronedOut::about, -2, -1, 10);
    }

    // All there can be: twelve CREASES of the fifth PERSON. What is asked of them sees the last one, and none beyond it.
    private static void allOfOnePerson() {
        IronedOut x = persons(5);
        for (int i = 0; i < 12; i++) {
            x.crease(4, 99 - 9 * i, 9, 1);
        }
        Due.due("CREASES", x.of(4, 2), 4095);
        Due.due("WORTH", x.of(4, 4), 12);
        Due.due("span", x.of(4, 5), 8);
        Due.due("eldest", x.eldest(4), 11);
        Due.due("eldest of another", x.eldest(3), -1);
        Due.due("blank", x.blank(), 15);
        Due.due("shared", x.shared(4, 3), 0);
        Due.due("sets", x.sets(4, 0), 4096);
        Due.due("next", x.next(4), 0);
        Due.due("next of another", x.next(3), -1);
        Due.due("flat", x.flat(4, 1, 10), 1365);
        Due.due("cut", x.cut(false), 0);
        x.want(11, 1);
        Due.due("cut", x.cut(false), 2048);
        Due.due("pressed", x.press(11), 7);
        Due.due("foretold", x.foretold(60, 11), 9);
        Due.due("ten HOURS", x.hour(10), 10);
        Due.due("DEPTH", x.ofCrease(11, 2), 8);
        x.by(Due.text(x, "presses 9; scorches 0; price depth + deep 11;"));
        Due.due("gone", x.press(11), 0);
        Due.due("eldest", x.eldest(4), 10);
        Due.due("taken back", x.undo(), 11);
        Due.due("DEPTH", x.ofCrease(11, 2), 8);
        Due.due("COINS", x.of(4, 1), 97);
        x.seam(0, 0, 9);
        Due.due("SURE", x.sets(4, 1), 2048);
        Due.due("of another", x.sets(3, 0), 0);
    }

    // Promise 45: each of these, empty and full.
    private static void aboutEmptyAndFull() {
        IronedOut x = new IronedOut();
        int[] empty = {0, 0, -1, 0, 0, 0, 0, 0, 0, 0};
        for (int what = 0; what <= 9; what++) {
            Due.due("empty, " + what, x.about(what), empty[what]);
        }
        x = persons(5);
        x.crease(0, 0, 1, 0);
        for (int i = 0; i < 9; i++) {
            Due.text(x, "heat 1;");
            x.want(0, 1);
            x.board(1);
            x.seam(0, 1, 1);
            x.heir(1);
            x.offer(1);
            x.person(0, 0);
        }
        x.by(3);
        x.hour(60);
        for (int i = 0; i < 15; i++) {
            x.feed(0, 0, 0, 0, 0);
        }
        x.end(280);
        x.feed(0, 0, 0, 0, 0);
        int[] full = {5, 4, 3, 30, 8, 8, 8, 6, 8, 300};
        for (int what = 0; what <= 9; what++) {
            Due.due("full, " + what, x.about(what), full[what]);
        }
    }
}
