/**
 * The edges of promises 6 to 10 and 15, and of the terms of part II behind them: a test a sentence, which stands on top
 * of it.
 */
public final class EdgesOfTextsTest {
    private static final String DAMPS_23 = "damp 1;".repeat(23);
    private static final String DAMPS_24 = "damp 1;".repeat(24);
    private static final String THEN = "1=1 then 1 else 1 end";

    public static void main(String[] args) {
        feedNoMoreThan300();
        feedTheHighestFirst();
        endOfOthers();
        endOfAll();
        textEmpty();
        textOf300();
        lastTokenOf300();
        textWithAFault();
        textBehindManyFaults();
        fourTexts();
        faultOfOthers();
        faultAheadOfAny();
        faultOfTheLatestRead();
        byOthers();
        byNone();
        blanks();
        letters();
        digits();
        signs();
        theLongest();
        noClauses();
        noClauseLeftOpen();
        nothingLeftOut();
        onceEach();
        numbersOfDeeds();
        numbersInSums();
        numbersOfManyDigits();
        worthOne();
        standing();
        standingInSums();
        asksAlone();
        atTheEnd();
        eightOpen();
        theNinth();
        theNinthOfAnyKind();
        sideBySide();
        openInsideIf();
        minusOfTwo();
        theSecondTime();
        namesOfTheirClauses();
        clause25();
        theLeastOfOne();
        theFirst();
        cutTowardsNothing();
        byNothing();
        aboveAMillion();
        belowTheSameLess();
        turned();
        deep();
        asksAtTheirEdges();
        bothSidesAndBinding();
        eachSignOnBothSides();
        theSumThatIsChosen();
        namesAtTheirEnds();
        pressesAtLeastAtMost();
        scorchesAtLeastAtMost();
        priceAtLeastAtMost();
        presses();
        scorches();
        price();
        playedOfOthers();
        playedOfNothing();
        playedButLaws();
        playedNumberAmongAll();
        playedThatCannotBe();
        playedHours();
        playedAsByHand();
        playedDamp();
        Due.finish();
    }

    private static IronedOut fed(int bytes) {
        IronedOut x = new IronedOut();
        for (int i = 0; i < bytes; i += 20) {
            x.feed(0x68656174, 0x20313b20, 0x20202020, 0x20202020, 0x0a202020);
        }
        x.end(bytes);
        return x;
    }

    /** Two CREASES, 1 on 0; a TEXT that rules, one that doesn't, something on the tape, and a FAULT. */
    private static IronedOut some() {
        IronedOut x = two();
        Due.text(x, "price depth + 1;");
        Due.text(x, "presses 1; heat 7; press 0;");
        Due.text(x, "price depth + + 1;");
        x.by(0);
        x.press(0);
        Due.tape(x, "damp 1");
        return x;
    }

    private static IronedOut two() {
        IronedOut x = new IronedOut();
        x.person(2, 9999);
        x.person(1, 0);
        x.crease(0, 99, 9, -9);
        x.crease(1, 0, 1, 9);
        x.tie(1, 0);
        return x;
    }

    private static void faults(int fault, int place, String text) {
        Due.faulty(text, fault, place);
    }

    // Promise 6: "how many it has. NONE, and none come, if there would be more than 300."
    private static void feedNoMoreThan300() {
        for (int bytes : new int[] {0, 1, 19, 260, 279, 280}) {
            Due.due("feed behind " + bytes, fed(bytes).feed(0, 0, 0, 0, 0), bytes + 20);
        }
        for (int bytes : new int[] {281, 299, 300}) {
            Twins.leaves("feed behind " + bytes, () -> fed(bytes), x -> x.feed(1, 2, 3, 4, 5), -1);
            Due.due("bytes", fed(bytes).about(9), bytes);
        }
        Twins.leaves("feed in the midst", EdgesOfTextsTest::full, x -> x.feed(-1, -1, -1, -1, -1), -1);
    }

    private static IronedOut full() {
        IronedOut x = some();
        Due.tape(x, "price 9; press 1;" + " ".repeat(264));
        return x;
    }

    // Promise 6: "Twenty bytes come behind the tape, the highest of a first".
    private static void feedTheHighestFirst() {
        IronedOut x = new IronedOut();
        x.feed(0x68656174, 0x20393b20, 0x70726573, 0x7320303b, 0x64616d70);
        x.feed(0x20313b20, 0x20202020, 0x20202020, 0x20202020, 0x20202020);
        Due.due("heat 9; press 0; damp 1;", x.text(), 0);
        Due.due("played", x.played(0), 1);
        Due.due("HEAT", x.is(1), 9);
        for (int at = 0; at < 20; at++) {
            int[] five = {0x20202020, 0x20202020, 0x20202020, 0x20202020, 0x20202020};
            five[at / 4] += (0xff - 0x20) << 24 - at % 4 * 8;
            x = new IronedOut();
            x.feed(five[0], five[1], five[2], five[3], five[4]);
            Due.due("255 is none", x.text(), -1);
            Due.due("at its place", x.fault(1), at);
        }
    }

    // Promise 7: "NONE, and nothing is done, if it has not so many, or n is below 0."
    private static void endOfOthers() {
        Twins.refused("end", EdgesOfTextsTest::some, IronedOut::end, -1, -1, -2, 7, 20, 300, 301);
        Twins.refused("end of none", IronedOut::new, IronedOut::end, -1, -1, 1, 300);
        Twins.refused("end of 300", () -> fed(300), IronedOut::end, -1, -1, 301);
    }

    // Promise 7: "The tape has its first n bytes alone: n": none, all.
    private static void endOfAll() {
        Due.due("none of none", new IronedOut().end(0), 0);
        Due.due("all of 300", fed(300).end(300), 300);
        Due.due("none of 300", fed(300).end(0), 0);
        IronedOut x = fed(300);
        Due.due("one less", x.end(299), 299);
        Due.due("bytes", x.about(9), 299);
        Due.due("300 are no more there", x.end(300), -1);
        Due.due("none", x.end(0), 0);
        Due.due("an empty tape", x.about(9), 0);
        x.feed(0x68656174, 0x20323b20, 0x20202020, 0x20202020, 0x20202020);
        Due.due("from its beginning", x.text(), 0);
        Twins.leaves("all of it", EdgesOfTextsTest::some, y -> y.end(6), 6);
    }

    // Promise 8: "The tape (empty then) is a TEXT: its number." An empty tape is one without CLAUSES.
    private static void textEmpty() {
        IronedOut x = two();
        Due.due("of an empty tape", x.text(), 0);
        Due.due("without a FAULT", x.fault(0), 0);
        Due.due("no place", x.fault(1), -1);
        Due.due("it rules", x.by(0), true);
        Due.due("as without laws", x.ofCrease(0, 6) * 100 + x.ofCrease(0, 7) * 10 + x.ofCrease(0, 8), 109);
        Due.due("played", x.played(0), -1);
        Due.tape(x, "heat 3;");
        Due.due("the next one", x.text(), 1);
        Due.due("empty then", x.about(9), 0);
    }

    // "of up to 300 bytes".
    private static void textOf300() {
        Due.sound("heat 1;" + " ".repeat(293));
        Due.sound(" ".repeat(293) + "heat 1;");
        Due.sound("price 1" + "+1".repeat(146) + ";");
        Due.sound("price " + "0".repeat(292) + "7;");
        Due.sound("\n".repeat(300));
        faults(1, 299, "price 1" + "+1".repeat(146) + ")");
        faults(1, 300, "price 1" + "+1".repeat(146) + "+");
        faults(1, 300, "price 1" + "+1".repeat(146) + " ");
        faults(1, 300, "heat 1" + " ".repeat(294));
        faults(1, 0, "a".repeat(300));
        faults(2, 6, "price " + "9".repeat(294));
        IronedOut x = two();
        Due.due("147 ones", Due.text(x, "price 1" + "+1".repeat(146) + ";"), 0);
        x.by(0);
        Due.due("147 ones", x.ofCrease(0, 8), 147);
    }

    // The last TOKEN ends with the 300th byte: a word that is one, or none, a NUMBER, a sign.
    private static void lastTokenOf300() {
        for (String word : new String[] {"p", "hea", "pattern", "heat", "heats"}) {
            boolean starts = word.equals("pattern") || word.equals("heat");
            faults(1, starts ? 300 : 300 - word.length(), "heat 1;" + " ".repeat(293 - word.length()) + word);
        }
        faults(1, 300, "price 1" + " ".repeat(288) + "+1234");
        faults(2, 295, "price 1+" + " ".repeat(287) + "12345");
        for (String sign : new String[] {"<", ">", "<=", ">=", "="}) {
            faults(1, 300, "price if 1" + " ".repeat(290 - sign.length()) + sign);
        }
        faults(1, 299, "price 1" + " ".repeat(292) + "<");
    }

    // Promise 8: "(empty then) .. NONE: it has a FAULT": none of it is told, its number is the next one's.
    private static void textWithAFault() {
        IronedOut x = some();
        int texts = x.about(1);
        Due.due("a FAULT", Due.text(x, "person 0 coins 5; heat 9; heat"), -1);
        Due.due("TEXTS", x.about(1), texts);
        Due.due("THE TEXT", x.about(2), 0);
        Due.due("empty then", x.about(9), 0);
        Due.due("nothing is done", x.about(0) * 10 + x.is(1), 25);
        Due.due("no TEXT of that number", x.by(texts), false);
        Due.due("no TEXT of that number", x.played(texts), -2);
        Due.due("the next one", Due.text(x, "price 3;"), texts);
        Due.due("it has its own laws alone", x.by(texts) ? x.ofCrease(0, 8) : -5, 3);
    }

    // Read over and over, a FAULT leaves nothing behind that would take room from the next one.
    private static void textBehindManyFaults() {
        IronedOut x = two();
        for (int i = 0; i < 9; i++) {
            Due.due("a FAULT", Due.text(x, "price 1" + "+1".repeat(140) + ";presses 1+;"), -1);
        }
        Due.due("a TEXT", Due.text(x, "price 1" + "+1".repeat(146) + ";"), 0);
        x.by(0);
        Due.due("147 ones", x.ofCrease(0, 8), 147);
        Due.due("presses without", x.ofCrease(1, 6), 2);
        Due.due("a FAULT of the 24th CLAUSE", Due.text(x, DAMPS_23 + "damp;"), -1);
        Due.due("a TEXT", Due.text(x, DAMPS_24), 1);
    }

    private static IronedOut ofFour() {
        IronedOut x = some();
        Due.text(x, "price 2;");
        Due.text(x, "price 3;");
        Due.tape(x, "price 4;");
        return x;
    }

    // "TEXTS 0 .. 3"; promise 8: "or (the tape stays) there are 4".
    private static void fourTexts() {
        IronedOut x = new IronedOut();
        for (int i = 0; i <= 3; i++) {
            Due.due("a TEXT", Due.text(x, "price " + i + ";"), i);
            Due.due("TEXTS", x.about(1), i + 1);
        }
        Twins.leaves("a fifth", EdgesOfTextsTest::ofFour, IronedOut::text, -1);
        Twins.leaves("a fifth of an empty tape", () -> {
            IronedOut y = ofFour();
            y.end(0);
            return y;
        }, IronedOut::text, -1);
        Twins.leaves("a fifth with a FAULT: it isn't read", () -> {
            IronedOut y = ofFour();
            y.end(3);
            return y;
        }, IronedOut::text, -1);
        x = ofFour();
        x.text();
        Due.due("the tape stays", x.about(9), 8);
        Due.due("the fourth yet", x.by(3) ? x.ofCrease(0, 8) : -5, 3);
    }

    // Promise 9: "NONE for others".
    private static void faultOfOthers() {
        Twins.taken("fault", EdgesOfTextsTest::some, IronedOut::fault, -1, 0, 1);
        Twins.refused("fault", EdgesOfTextsTest::some, IronedOut::fault, -1, -1, 2);
    }

    // Promise 9: "and ahead of any".
    private static void faultAheadOfAny() {
        IronedOut x = two();
        x.feed(0, 0, 0, 0, 0);
        for (int what = -1; what <= 2; what++) {
            Due.due("fault", x.fault(what), -1);
        }
    }

    // Promise 9: "Of the latest text that was read: 0 its FAULT (0 without), 1 its place (NONE without)."
    private static void faultOfTheLatestRead() {
        IronedOut x = new IronedOut();
        Due.text(x, "heat 1; heat");
        Due.due("FAULT", x.fault(0), 1);
        Due.due("place", x.fault(1), 12);
        Due.text(x, "heat 99;");
        Due.due("FAULT", x.fault(0), 2);
        Due.due("place", x.fault(1), 5);
        Due.text(x, "heat 9;");
        Due.due("0 without", x.fault(0), 0);
        Due.due("NONE without", x.fault(1), -1);
        Due.tape(x, "heat");
        Due.due("not read yet", x.fault(0), 0);
        Due.due("read", x.text(), -1);
        Due.due("FAULT", x.fault(0), 1);
        Due.due("place 4", x.fault(1), 4);
        Due.text(x, "!");
        Due.due("place 0", x.fault(1), 0);
    }

    // Promise 10: "THE TEXT: true. False for others."
    private static void byOthers() {
        Twins.taken("by", EdgesOfTextsTest::some, (x, text) -> x.by(text) ? 1 : 0, 0, -1, 0, 1);
        Twins.refused("by", EdgesOfTextsTest::some, (x, text) -> x.by(text) ? 1 : 0, 0, -2, 2, 3, 4);
        Twins.refused("by of none", IronedOut::new, (x, text) -> x.by(text) ? 1 : 0, 0, -2, 0);
        Twins.taken("by of four", EdgesOfTextsTest::ofFour, (x, text) -> x.by(text) ? 1 : 0, 0, 0, 3);
        Twins.refused("by of four", EdgesOfTextsTest::ofFour, (x, text) -> x.by(text) ? 1 : 0, 0, -2, 4);
    }

    // Promise 10: "(NONE: none)".
    private static void byNone() {
        Twins.leaves("by(NONE) of none", IronedOut::new, x -> x.by(-1) ? 1 : 0, 1);
        IronedOut x = some();
        Due.due("by law", x.ofCrease(1, 8), 2);
        x.by(-1);
        Due.due("none", x.about(2), -1);
        Due.due("without", x.ofCrease(1, 8), 1);
    }

    // "blanks (32, 10) aside": no other byte is one.
    private static void blanks() {
        Due.sound(" \n heat \n\n 1 \n ; \n ");
        for (int sign = 0; sign < 256; sign++) {
            boolean blank = sign == 32 || sign == 10;
            boolean digit = sign >= '0' && sign <= '9';
            if (blank || digit) {
                Due.sound("hour 1" + (char) sign + ";");
            } else if (sign != ';') {
                faults(1, 6, "hour 1" + (char) sign + ";");
            }
        }
    }

    // "letters a .. z, A .. Z one behind the other (one TOKEN)".
    private static void letters() {
        for (int sign = 0; sign < 256; sign++) {
            boolean letter = sign >= 'a' && sign <= 'z' || sign >= 'A' && sign <= 'Z';
            boolean blank = sign == 32 || sign == 10;
            boolean digit = sign >= '0' && sign <= '9';
            if (letter) {
                faults(1, 0, "heat" + (char) sign + "1;");
            } else if (blank || digit) {
                Due.sound("heat" + (char) sign + (digit ? ";" : "1;"));
            } else {
                faults(1, 4, "heat" + (char) sign + "1;");
            }
        }
        for (String word : new String[] {"Heat", "HEAT", "hEat", "hea", "heatt", "he at", "aheat"}) {
            faults(1, 0, word + " 1;");
        }
    }

    // "digits likewise (NUMBERS, 0 .. 9999)".
    private static void digits() {
        Due.sound("heat1;heat 2;");
        Due.sound("price 0+9999;");
        faults(1, 9, "price 99 99;");
        faults(1, 8, "price 99a;");
        faults(1, 8, "price 9 9999;");
        faults(2, 6, "price 10000;");
        faults(2, 6, "price 99990;");
    }

    // "<= >= < > = # + - * / ( ) ;": no other byte is a TOKEN.
    private static void signs() {
        for (int sign = 0; sign < 256; sign++) {
            boolean operation = "+-*/".indexOf(sign) >= 0;
            boolean blank = sign == 32 || sign == 10;
            boolean digit = sign >= '0' && sign <= '9';
            String text = "price 1" + (char) sign + "1;";
            if (operation || digit) {
                Due.sound(text);
            } else {
                faults(1, blank || sign == ';' ? 8 : 7, text);
            }
            if ("<>=#".indexOf(sign) >= 0) {
                Due.sound("price if 1" + (char) sign + "1 then 1 else 1 end;");
            } else if (!operation && !digit && !blank) {
                faults(1, 10, "price if 1" + (char) sign + "1 then 1 else 1 end;");
            }
        }
    }

    // "(the longest)": <= and >= are one TOKEN; apart, or the other way about, they are two.
    private static void theLongest() {
        Due.sound("price if 1<=1 then 1 else 1 end;");
        Due.sound("price if 1>=1 then 1 else 1 end;");
        faults(1, 12, "price if 1< =1 then 1 else 1 end;");
        faults(1, 11, "price if 1=<1 then 1 else 1 end;");
        faults(1, 11, "price if 1=>1 then 1 else 1 end;");
        faults(1, 11, "price if 1<>1 then 1 else 1 end;");
        faults(1, 12, "price if 1<==1 then 1 else 1 end;");
        faults(1, 11, "price if 1==1 then 1 else 1 end;");
        faults(1, 11, "price if 1#=1 then 1 else 1 end;");
        IronedOut x = two();
        Due.worked(x, 0, "if 2<=2 then 1 else 0 end", 1);
        Due.worked(x, 0, "if 2>=2 then 1 else 0 end", 1);
        Due.worked(x, 0, "if 1<-1 then 1 else 0 end", 0);
    }

    // "{CLAUSE}, 24 at most": none, one, 23, 24.
    private static void noClauses() {
        Due.sound("");
        Due.sound(" ");
        Due.sound("\n");
        Due.sound("heat 1;");
        Due.sound(DAMPS_23);
        Due.sound(DAMPS_24);
        Due.sound(DAMPS_23 + "price 1;");
        Due.sound("presses 1;scorches 1;price 1;" + "damp 1;".repeat(21));
        Due.sound(DAMPS_24 + " \n ");
    }

    // Each CLAUSE ends with ";", the last one, too.
    private static void noClauseLeftOpen() {
        String[] clauses = {"presses 1", "scorches 1", "price 1", "person 1 coins 1", "crease 1 year 1 depth 1",
            "tie 1 to 2", "heat 1", "press 1", "pattern 1", "damp 1", "hour 1"};
        for (String clause : clauses) {
            Due.sound(clause + ";");
            faults(1, clause.length(), clause);
            faults(1, clause.length() + 1, clause + " heat 1;");
            faults(1, clause.length() + 1, clause + ";;");
            faults(1, clause.length() + 1, clause + ";)");
        }
    }

    // Nothing of a CLAUSE can be left out: at each TOKEN that is missing the next can't stand.
    private static void nothingLeftOut() {
        String[] clauses = {"presses 1 ;", "scorches 1 ;", "price 1 ;", "person 1 coins 1 ;", "crease 1 year 1 depth 1 ;",
            "tie 1 to 2 ;", "heat 1 ;", "press 1 ;", "pattern 1 ;", "damp 1 ;", "hour 1 ;",
            "price if 1 = 1 then 1 else 1 end ;"};
        for (String clause : clauses) {
            String[] tokens = clause.split(" ");
            int place = tokens[0].length() + 1;
            for (int i = 1; i < tokens.length - 1; i++) {
                StringBuilder text = new StringBuilder();
                for (int j = 0; j < tokens.length; j++) {
                    text.append(j == i ? "" : j == 0 ? tokens[j] : " " + tokens[j]);
                }
                boolean ifLeftOut = tokens[i].equals("if");
                faults(1, ifLeftOut ? place + 2 : place, text.toString());
                place += tokens[i].length() + 1;
            }
        }
    }

    // "(each once)": any of the three, in any order.
    private static void onceEach() {
        String[] laws = {"presses 1;", "scorches 1;", "price 1;"};
        for (int i = 0; i < 3; i++) {
            for (int j = 0; j < 3; j++) {
                if (i == j) {
                    faults(4, laws[i].length(), laws[i] + laws[j]);
                } else {
                    Due.sound(laws[i] + laws[j]);
                    Due.sound(laws[i] + laws[j] + laws[3 - i - j]);
                    faults(4, laws[i].length() + laws[j].length(), laws[i] + laws[j] + laws[i]);
                }
            }
        }
        Due.sound("heat 1;heat 1;damp 1;damp 1;hour 1;hour 1;press 1;press 1;tie 0 to 1;tie 0 to 1;");
    }

    /** The NUMBER between head and tail: these are taken, one beside them on either side isn't. */
    private static void numbers(String head, int least, int most, String tail) {
        Due.sound(head + least + tail);
        Due.sound(head + most + tail);
        if (least > 0) {
            faults(2, head.length(), head + (least - 1) + tail);
        }
        faults(2, head.length(), head + (most + 1) + tail);
        faults(2, head.length(), head + "99999999999999999999" + tail);
        faults(2, head.length(), head + "4294967297" + tail);
        faults(2, head.length(), head + "18446744073709551617" + tail);
        faults(1, head.length(), head + "-1" + tail);
        faults(1, head.length(), head + "(1)" + tail);
        faults(1, head.length(), head + "year" + tail);
    }

    // "a NUMBER that isn't one of those told (above 9999; SKIN 0 .. 2, PERSONS 0 .. 4, YEARS 0 .. 99, DEPTH 1 .. 9,
    // CREASES 0 .. 11, HEAT 0 .. 9, of damp 1 .. 9, HOURS 1 .. 60)".
    private static void numbersOfDeeds() {
        numbers("person ", 0, 2, " coins 0;");
        numbers("person 0 coins ", 0, 9999, ";");
        numbers("crease ", 0, 4, " year 0 depth 1;");
        numbers("crease 0 year ", 0, 99, " depth 1;");
        numbers("crease 0 year 0 depth ", 1, 9, ";");
        numbers("tie ", 0, 11, " to 1;");
        numbers("tie 1 to ", 0, 11, ";");
        numbers("heat ", 0, 9, ";");
        numbers("press ", 0, 11, ";");
        numbers("pattern ", 0, 11, ";");
        numbers("damp ", 1, 9, ";");
        numbers("hour ", 1, 60, ";");
    }

    private static void numbersInSums() {
        for (String head : new String[] {"presses ", "scorches ", "price ", "price 1+", "price 2*", "price -",
            "price turned ", "price deep ", "price (", "price if ", "price if 1<", "price if 1=1 then ",
            "price if 1=1 then 1 else "}) {
            faults(2, head.length(), head + "10000");
            faults(1, head.length() + 4, head + "9999");
        }
    }

    // NUMBERS of any length are read as they are.
    private static void numbersOfManyDigits() {
        Due.sound("heat 0000000000000000000000000000000009;");
        faults(2, 5, "heat 00000000000000000000000000000010;");
        Due.sound("price 00000000000000009999;");
        faults(2, 6, "price 00000000000000010000;");
        IronedOut x = two();
        Due.worked(x, 0, "0000000000000000000000000123", 123);
        Due.worked(x, 0, "0000", 0);
    }

    // "crease NUMBER year NUMBER depth NUMBER ; (PERSON; WORTH 1)"; "person NUMBER coins NUMBER ; (SKIN)".
    private static void worthOne() {
        IronedOut x = new IronedOut();
        Due.text(x, "person 2 coins 9999;crease 0 year 99 depth 9;person 0 coins 0;crease 1 year 0 depth 1;");
        Due.due("played", x.played(0), -1);
        int[][] due = {{0, 99, 9, 1}, {1, 0, 1, 1}};
        for (int i = 0; i < 2; i++) {
            for (int what = 0; what < 4; what++) {
                Due.due("of " + i + ", " + what, x.ofCrease(i, what), due[i][what]);
            }
        }
        Due.due("SKIN, COINS", x.of(0, 0) * 10000 + x.of(0, 1), 29999);
    }

    // "1 it can't stand there, or is none."
    private static void standing() {
        String[] starts = {"presses", "scorches", "price", "person", "crease", "tie", "press", "pattern", "damp", "heat",
            "hour"};
        String[] others = {"who", "skin", "year", "depth", "worth", "coins", "ties", "to", "turned", "deep", "if", "then",
            "else", "end", "not", "and", "or", "0", "+", "-", "*", "/", "(", ")", ";", "<", "<=", ">", ">=", "=", "#", "!"};
        for (String start : starts) {
            faults(1, start.length() + 1, start + " ;");
        }
        for (String other : others) {
            faults(1, 0, other + " 1;");
            faults(1, 8, "heat 1; " + other);
        }
        for (String start : starts) {
            boolean isName = start.equals("hour") || start.equals("heat");
            faults(1, isName ? 10 + start.length() : 9, "price 1+ " + start + " !");
        }
    }

    private static final String[] TOKENS = {"presses", "scorches", "price", "person", "crease", "tie", "press", "pattern",
        "damp", "heat", "hour", "who", "skin", "year", "depth", "worth", "coins", "ties", "to", "turned", "deep", "if", "then",
        "else", "end", "not", "and", "or", "0", "+", "-", "*", "/", "(", ")", ";", "<", "<=", ">", ">=", "=", "#", "!", "foo"};

    /** Behind the head each TOKEN but these can't stand; a byte that is none behind it tells that it can. */
    private static void standsBehind(String head, String these) {
        for (String token : TOKENS) {
            boolean stands = (" " + these + " ").contains(" " + token + " ");
            faults(1, head.length() + (stands ? token.length() + 2 : 1), head + " " + token + " !");
            if (!stands) {
                faults(1, head.length() + 1, head + " " + token + " 1; price 1;");
            }
        }
    }

    // "1 it can't stand there": where a SUM, an ASK, or what goes on with them is due.
    private static void standingInSums() {
        String ones = "0 hour heat who skin year depth worth coins ties ( - turned deep if";
        for (String head : new String[] {"price", "price 1 +", "price 1 -", "price 1 *", "price 1 /", "price (", "price -",
            "price turned", "price deep", "price if 1 <", "price if 1 = 1 then", "price if 1 = 1 then 1 else"}) {
            standsBehind(head, ones);
        }
        for (String head : new String[] {"price if", "price if not", "price if 1 = 1 and", "price if 1 = 1 or"}) {
            standsBehind(head, ones + " not");
        }
        standsBehind("price 1", "+ - * / ;");
        standsBehind("price - 1", "+ - * / ;");
        standsBehind("price turned year", "+ - * / ;");
        standsBehind("price ( 1", "+ - * / )");
        standsBehind("price ( 1 )", "+ - * / ;");
        standsBehind("price if 1", "+ - * / < <= > >= = #");
        standsBehind("price if 1 = 1", "+ - * / and or then");
        standsBehind("price if not 1 = 1", "+ - * / and or then");
        standsBehind("price if 1 = 1 and 1 = 1", "+ - * / and or then");
        standsBehind("price if 1 = 1 then 1", "+ - * / else");
        standsBehind("price if 1 = 1 then 1 else 1", "+ - * / end");
        standsBehind("price if 1 = 1 then 1 else 1 end", "+ - * / ;");
    }

    // "ASK: .. SUM one of < <= > >= = # SUM": neither side can be left out, and no ASK is a SUM.
    private static void asksAlone() {
        faults(1, 9, "price if =1 then 1 else 1 end;");
        faults(1, 12, "price if 1= then 1 else 1 end;");
        faults(1, 11, "price if 1 then 1 else 1 end;");
        faults(1, 12, "price if 1=1=1 then 1 else 1 end;");
        faults(1, 7, "price 1=1;");
        faults(1, 8, "price (1=1);");
        faults(1, 6, "price not 1=1;");
        faults(1, 11, "price if (1=1) then 1 else 1 end;");
        faults(1, 15, "price if not (1=1) then 1 else 1 end;");
        faults(1, 16, "price if 1=1 or then 1 else 1 end;");
        faults(1, 16, "price if 1=1 or or 1=1 then 1 else 1 end;");
        faults(1, 17, "price if 1=1 and or 1=1 then 1 else 1 end;");
        faults(1, 12, "price if 1=1;");
        faults(1, 19, "price if 1=1 then 1;");
        faults(1, 20, "price (if 1=1 then 1);");
        faults(1, 20, "price if 1=1 then 1 end;");
        faults(1, 26, "price if 1=1 then 1 else 1;");
        faults(1, 27, "price (if 1=1 then 1 else 1);");
        faults(1, 24, "price if 1=1 then 1 else;");
        faults(1, 9, "price if or 1=1 then 1 else 1 end;");
    }

    // "(of the end at the length)".
    private static void atTheEnd() {
        String whole = "price if not 1<=2 or 3=4 and 5>6 then (7*-8) else turned deep year-9 end;";
        for (int length = 1; length < whole.length(); length++) {
            IronedOut x = new IronedOut();
            Due.tape(x, whole);
            x.end(length);
            x.text();
            boolean cutWord = Character.isLetter(whole.charAt(length - 1)) && Character.isLetter(whole.charAt(length));
            if (!cutWord) {
                Due.due("FAULT of the first " + length, x.fault(0), 1);
                Due.due("place", x.fault(1), length);
            }
        }
        faults(1, 9, "heat 1 \n ");
    }

    private static final String[] OPENING = {"(", "-", "turned ", "deep "};

    // "3 the 9th of ( not turned deep if and - (of one ONE) that are open around one another": eight are taken.
    private static void eightOpen() {
        for (String opening : OPENING) {
            Due.sound("price " + opening.repeat(8) + "1" + (opening.equals("(") ? ")".repeat(8) : "") + ";");
        }
        Due.sound("price if " + "not ".repeat(7) + THEN + ";");
        Due.sound("price " + "if ".repeat(8) + "1=1" + " then 1 else 1 end=1".repeat(7) + " then 1 else 1 end;");
        Due.sound("price " + "if 1=1 then ".repeat(8) + "1" + " else 1 end".repeat(8) + ";");
        Due.sound("price " + "if 1=1 then 1 else ".repeat(8) + "1" + " end".repeat(8) + ";");
        Due.sound("price -(turned deep if not not 1=(1) then 1 else ((1)) end);");
    }

    // "the 9th .. (at it)".
    private static void theNinth() {
        for (String opening : OPENING) {
            faults(3, 6 + 8 * opening.length(), "price " + opening.repeat(9) + "1;");
        }
        faults(3, 9 + 7 * 4, "price if " + "not ".repeat(8) + THEN + ";");
        faults(3, 6 + 8 * 3, "price " + "if ".repeat(9) + "1");
        faults(3, 6 + 8 * 12, "price " + "if 1=1 then ".repeat(9) + "1");
        faults(3, 6 + 8 * 19, "price " + "if 1=1 then 1 else ".repeat(9) + "1");
    }

    private static void theNinthOfAnyKind() {
        for (String eight : new String[] {"((((((((", "--------", "(-(-(-(-", "turned -(turned -(turned -"}) {
            for (String ninth : OPENING) {
                faults(3, 6 + eight.length(), "price " + eight + ninth + "1");
            }
            faults(3, 6 + eight.length(), "price " + eight + "if 1=1");
        }
        faults(3, 16, "price (((((((if not 1=1 then 1 else 1 end");
    }

    // "around one another": side by side as many as there is room for.
    private static void sideBySide() {
        Due.sound("price (1)" + "+(1)".repeat(40) + ";");
        Due.sound("price -1" + "*-1".repeat(40) + ";");
        Due.sound("price turned 1" + "+turned 1".repeat(20) + ";");
        Due.sound("price deep 1" + "-deep 1".repeat(20) + ";");
        Due.sound("price if not 1=1" + " or not 1=1".repeat(20) + " then 1 else 1 end;");
        Due.sound("price if " + THEN + ("*if " + THEN).repeat(9) + ";");
        Due.sound("price ((((((((1)))))))) + ((((((((1))))))));");
        faults(3, 32, "price ((((((((1))))))))+(((((((((1");
    }

    // "not" is open to the end of its ASK, "if" to its end: what stands behind isn't in it.
    private static void openInsideIf() {
        Due.sound("price if not 1=1 and 1=(((((((1))))))) then 1 else 1 end;");
        faults(3, 30, "price if not 1=1 and 1=((((((((1");
        Due.sound("price if not 1=((((((1)))))) then 1 else 1 end;");
        faults(3, 21, "price if not 1=(((((((1");
        Due.sound("price if 1=1 then (((((((1))))))) else (((((((1))))))) end;");
        faults(3, 25, "price if 1=1 then ((((((((1");
        faults(3, 32, "price if 1=1 then 1 else ((((((((1");
        Due.sound("price if 1=1 then 1 else 1 end + ((((((((1))))))));");
        Due.sound("price turned 1 + ((((((((1))))))));");
    }

    private static void minusOfTwo() {
        Due.sound("price 1" + "-1".repeat(20) + ";");
        Due.sound("price 1" + "-".repeat(9) + "1;");
        faults(3, 16, "price 1" + "-".repeat(10) + "1;");
        Due.sound("price ((((((((1-1))))))));");
    }

    // "4 presses, scorches, price for the second time (at it)."
    private static void theSecondTime() {
        for (String law : new String[] {"presses", "scorches", "price"}) {
            faults(4, law.length() + 3, law + " 1;" + law + " 1;");
            faults(4, law.length() + 5, law + " 1; \n" + law);
            faults(4, law.length() + 11, law + " 1; heat 1;" + law + "!");
        }
    }

    // "5 a NAME that isn't of that CLAUSE (at it)."
    private static void namesOfTheirClauses() {
        for (String name : new String[] {"hour", "heat", "who", "skin", "year", "depth", "worth", "coins", "ties"}) {
            boolean inPresses = !name.equals("coins") && !name.equals("ties");
            boolean inScorches = !name.equals("coins");
            if (inPresses) {
                Due.sound("presses " + name + ";");
            } else {
                faults(5, 8, "presses " + name + ";");
                faults(5, 22, "presses if 1=1 then (-" + name + ") else 1 end;");
            }
            if (inScorches) {
                Due.sound("scorches " + name + ";");
            } else {
                faults(5, 9, "scorches " + name + ";");
                faults(5, 14, "scorches 1*2+ " + name + "!");
            }
            Due.sound("price " + name + ";");
        }
    }

    // "6 the 25th CLAUSE (at its first TOKEN)."
    private static void clause25() {
        faults(6, 168, DAMPS_24 + "damp 1;");
        faults(6, 170, DAMPS_24 + " \nheat");
        faults(6, 168, DAMPS_24 + "presses 1;");
        faults(6, 172, DAMPS_24.replaceFirst("damp 1;", "scorches 1;") + "price 1;");
        faults(6, 168, DAMPS_24 + "damp 1;damp 1;damp 1;");
    }

    // "of one the least": of FAULTS of one TOKEN.
    private static void theLeastOfOne() {
        faults(1, 8, "price 1 10000;");
        faults(1, 7, "heat 1 10000;");
        faults(1, 0, "10000;");
        faults(1, 15, "price ((((((((1(");
        faults(1, 14, "price turned (not");
        faults(1, 8, "price 1 price");
        faults(1, 14, "price 1; heat price 1;");
        faults(1, 8, "price 1 price 1;");
        faults(1, 10, "presses 1 coins;");
        faults(1, 168, DAMPS_24 + "!");
        faults(1, 168, DAMPS_24 + "10000");
        faults(1, 168, DAMPS_24 + ";");
        faults(1, 168, DAMPS_24 + "ties");
        faults(4, 169, "price 1;" + DAMPS_23 + "price 1;");
        faults(6, 169, "price 1;" + DAMPS_23 + "presses 1;");
    }

    // "the first as TOKENS are come to".
    private static void theFirst() {
        faults(2, 5, "heat 10!");
        faults(2, 9, "price 1+ 10000 coins");
        faults(5, 8, "presses coins 10000");
        faults(3, 14, "price (((((((((10000");
        faults(4, 8, "price 1;price !");
        faults(6, 168, DAMPS_24 + "damp !");
        faults(1, 5, "price!10000");
    }

    // "/ cuts towards 0"
    private static void cutTowardsNothing() {
        IronedOut x = two();
        Due.worked(x, 0, "7/2", 3);
        Due.worked(x, 0, "10+(-7)/2", 7);
        Due.worked(x, 0, "10+7/(-2)", 7);
        Due.worked(x, 0, "(-7)/(-2)", 3);
        Due.worked(x, 0, "10+(-1)/2", 10);
        Due.worked(x, 0, "1/2", 0);
    }

    // "by 0 it is 0"
    private static void byNothing() {
        IronedOut x = two();
        Due.worked(x, 0, "5+7/0", 5);
        Due.worked(x, 0, "5+0/0", 5);
        Due.worked(x, 0, "5+(-7)/(1-1)", 5);
        Due.worked(x, 0, "5+9999*9999/0*3", 5);
        Due.worked(x, 0, "7/-0+1", 1);
    }

    // "what is above 1000000 .. is that, at each step": with *, + and -.
    private static void aboveAMillion() {
        IronedOut x = two();
        Due.worked(x, 0, "1000*1000-999*1000", 1000);
        Due.worked(x, 0, "1000*1000/1000", 1000);
        Due.worked(x, 0, "1001*1000/1000", 1000);
        Due.worked(x, 0, "1000*1000+1-9999*100-99", 1);
        Due.worked(x, 0, "(9999*100+99+1-9999*100-90)", 10);
        Due.worked(x, 0, "(9999*100+101-9999*100-90)", 10);
        Due.worked(x, 0, "(9999*100-(-100)-9999*100-90)", 10);
        Due.worked(x, 0, "(9999*100-(-101)-9999*100-90)", 10);
        Due.worked(x, 0, "(9999*100-(-99)-9999*100-90)", 9);
        Due.worked(x, 0, "9999*9999*9999*9999*9999/9999", 100);
        Due.worked(x, 0, "if 9999*9999=1000*1000 then 1 else 0 end", 1);
        Due.worked(x, 0, "if 999*1001<1000*1000 then 1 else 0 end", 1);
        Due.worked(x, 0, "if 1000*1000+1000*1000=1000*1000 then 1 else 0 end", 1);
    }

    // "(below the same less)"
    private static void belowTheSameLess() {
        IronedOut x = two();
        Due.worked(x, 0, "1000*(-1000)+1000*1000", 0);
        Due.worked(x, 0, "1001*(-1000)+1000*1000", 0);
        Due.worked(x, 0, "999*(-1001)+1000*1000", 1);
        Due.worked(x, 0, "-9999*100-101+9999*100+110", 10);
        Due.worked(x, 0, "-9999*100-100+9999*100+110", 10);
        Due.worked(x, 0, "-9999*100-99+9999*100+110", 11);
        Due.worked(x, 0, "-9999*100+(-101)+9999*100+110", 10);
        Due.worked(x, 0, "9999*9999*-9999/-9999", 100);
        Due.worked(x, 0, "if -9999*9999-1000*1000=-1000*1000 then 1 else 0 end", 1);
        Due.worked(x, 0, "if --1000*1000=1000*1000 then 1 else 0 end", 1);
    }

    // "turned ONE (its size with its digits the other way about: 120 is 21)".
    private static void turned() {
        IronedOut x = two();
        int[][] due = {{0, 0}, {1, 1}, {9, 9}, {10, 1}, {12, 21}, {120, 21}, {1000, 1}, {9999, 9999}, {1002, 2001}};
        for (int[] d : due) {
            Due.worked(x, 0, "turned " + d[0], d[1]);
            Due.worked(x, 0, "turned -" + d[0], d[1]);
            Due.worked(x, 0, "-turned -" + d[0] + "+9999", 9999 - d[1]);
        }
        Due.worked(x, 0, "turned (1000*1000)", 1);
        Due.worked(x, 0, "turned (-1000*1000)", 1);
        Due.worked(x, 0, "turned (9999*100+99)/100", 9999);
        Due.worked(x, 0, "turned (9999*100-9)/100", 1989);
        Due.worked(x, 0, "turned turned 1200", 12);
        Due.worked(x, 0, "turned 21*10", 120);
    }

    // "deep ONE (DEPTH of the CREASE of that number; 0 if none such is told)".
    private static void deep() {
        IronedOut x = two();
        Due.worked(x, 0, "deep 0", 9);
        Due.worked(x, 0, "deep 1", 1);
        Due.worked(x, 0, "5+deep 2", 5);
        Due.worked(x, 0, "5+deep 11", 5);
        Due.worked(x, 0, "5+deep 12", 5);
        Due.worked(x, 0, "5+deep -1", 5);
        Due.worked(x, 0, "5+deep (0-1)", 5);
        Due.worked(x, 0, "5+deep (9999*9999)", 5);
        Due.worked(x, 0, "5+deep -(9999*9999)", 5);
        for (int i = 2; i < 12; i++) {
            Due.worked(x, 0, "5+deep " + i, 5);
            x.crease(0, 0, 1 + i % 9, 0);
            Due.worked(x, 0, "deep " + i, 1 + i % 9);
        }
        x = two();
        x.by(Due.text(x, "presses 9; scorches 0;"));
        x.press(0);
        Due.worked(x, 0, "7+deep 0+deep 1", 7);
        x.damp(1);
        Due.worked(x, 1, "deep 0", 1);
    }

    // "one of < <= > >= = # (unlike)": below, like, above.
    private static void asksAtTheirEdges() {
        IronedOut x = two();
        String[] signs = {"<", "<=", ">", ">=", "=", "#"};
        int[][] due = {{1, 0, 0}, {1, 1, 0}, {0, 0, 1}, {0, 1, 1}, {0, 1, 0}, {1, 0, 1}};
        for (int i = 0; i < signs.length; i++) {
            for (int left = -1; left <= 1; left++) {
                Due.worked(x, 0, "if " + left + signs[i] + "0 then 1 else 0 end", due[i][left + 1]);
            }
        }
    }

    // "or and and look at both sides always": and binds more than or, not more than and.
    private static void bothSidesAndBinding() {
        for (int bits = 0; bits < 8; bits++) {
            IronedOut x = two();
            boolean a = (bits & 1) != 0;
            boolean b = (bits & 2) != 0;
            boolean c = (bits & 4) != 0;
            String[] asks = {a ? "1=1" : "1=2", b ? "1=1" : "1=2", c ? "1=1" : "1=2"};
            Due.worked(x, 0, "if " + asks[0] + " or " + asks[1] + " and " + asks[2] + " then 1 else 0 end",
                a || b && c ? 1 : 0);
            Due.worked(x, 0, "if " + asks[0] + " and " + asks[1] + " or " + asks[2] + " then 1 else 0 end",
                a && b || c ? 1 : 0);
            Due.worked(x, 0, "if not " + asks[0] + " and " + asks[1] + " then 1 else 0 end", !a && b ? 1 : 0);
            Due.worked(x, 0, "if not " + asks[0] + " or not not " + asks[1] + " then 1 else 0 end", !a || b ? 1 : 0);
        }
    }

    // Each sign on either side of and and or: what it says is so or isn't, and no more than that.
    private static void eachSignOnBothSides() {
        String[] so = {"1<2", "1<=2", "2>1", "2>=1", "1=1", "1#2", "not 1=2"};
        for (String left : so) {
            IronedOut x = two();
            for (String right : so) {
                Due.worked(x, 0, "if " + left + " and " + right + " then 1 else 0 end", 1);
                Due.worked(x, 0, "if 1=2 or not " + left + " or " + right + " then 1 else 0 end", 1);
                Due.worked(x, 0, "if not " + left + " or not " + right + " then 1 else 0 end", 0);
            }
        }
    }

    // "of if just the SUM that is chosen is asked".
    private static void theSumThatIsChosen() {
        IronedOut x = two();
        Due.worked(x, 0, "if 1=1 then 3 else 4 end", 3);
        Due.worked(x, 0, "if 1=2 then 3 else 4 end", 4);
        Due.worked(x, 0, "if 1=1 then if 1=2 then 3 else 4 end else 5 end", 4);
        Due.worked(x, 0, "if 1=2 then 5 else if 1=2 then 3 else 4 end end", 4);
        Due.worked(x, 0, "100-if 1=2 then 9999*9999/0 else 7/0-1 end*2", 102);
    }

    // "NAMES: hour, heat, who, skin, year, depth, worth in all; coins in price; ties in scorches, price": at their ends.
    private static void namesAtTheirEnds() {
        IronedOut x = two();
        String[] names = {"who", "skin", "year", "depth", "worth+10", "coins", "ties"};
        int[][] due = {{0, 2, 99, 9, 1, 9999, 2}, {1, 1, 0, 1, 19, 0, 1}};
        for (int crease = 0; crease < 2; crease++) {
            for (int i = 0; i < names.length; i++) {
                Due.worked(x, crease, names[i], due[crease][i]);
            }
        }
        Due.worked(x, 0, "hour", 0);
        Due.worked(x, 0, "heat", 5);
        x.heat(9);
        Due.worked(x, 0, "heat", 9);
        x.heat(0);
        Due.worked(x, 0, "heat", 0);
        x.by(Due.text(x, "presses 9; scorches 0; price 0;"));
        x.press(0);
        Due.worked(x, 0, "ties*10+depth", 20);
        x = late();
        Due.worked(x, 0, "hour", 9999);
        Due.worked(x, 0, "hour+1", 9999);
        Due.worked(x, 0, "(hour+1)/10", 1000);
    }

    private static IronedOut late() {
        IronedOut x = two();
        int text = Due.text(x, "hour 60;".repeat(24));
        for (int i = 0; i < 7; i++) {
            x.played(text);
        }
        return x;
    }

    private static int lawful(String law, int what, int crease) {
        IronedOut x = two();
        x.by(Due.text(x, law));
        return x.ofCrease(crease, what);
    }

    // "presses: 0 at least, 9 at most".
    private static void pressesAtLeastAtMost() {
        int[][] due = {{-9999, 0}, {-1, 0}, {0, 0}, {1, 1}, {8, 8}, {9, 9}, {10, 9}, {9999, 9}};
        for (int[] d : due) {
            Due.due("presses " + d[0], lawful("presses " + d[0] + ";", 6, 0), d[1]);
        }
    }

    // "scorches (the odds of 10): 0 at least, 10 at most".
    private static void scorchesAtLeastAtMost() {
        int[][] due = {{-9999, 0}, {-1, 0}, {0, 0}, {1, 1}, {9, 9}, {10, 10}, {11, 10}, {9999, 10}};
        for (int[] d : due) {
            Due.due("scorches " + d[0], lawful("scorches " + d[0] + ";", 7, 0), d[1]);
        }
    }

    // "price: 0 at least, 9999 at most".
    private static void priceAtLeastAtMost() {
        String[] sums = {"-9999*9999", "-1", "0", "1", "9998", "9999", "9999+1", "9999*9999"};
        int[] due = {0, 0, 0, 1, 9998, 9999, 9999, 9999};
        for (int i = 0; i < sums.length; i++) {
            Due.due("price " + sums[i], lawful("price " + sums[i] + ";", 8, 0), due[i]);
        }
    }

    // "presses .. without: HEAT by 2, cut, of silk 1".
    private static void presses() {
        IronedOut x = two();
        x.person(0, 0);
        x.crease(2, 0, 9, 0);
        for (int heat = 0; heat <= 9; heat++) {
            x.heat(heat);
            Due.due("silk", x.ofCrease(0, 6), 1);
            Due.due("wool", x.ofCrease(1, 6), heat / 2);
            Due.due("cotton", x.ofCrease(2, 6), heat / 2);
        }
        x.by(Due.text(x, "presses 5;"));
        Due.due("silk by law", x.ofCrease(0, 6), 5);
    }

    // "scorches .. without: HEAT less 6 (0 at least)".
    private static void scorches() {
        IronedOut x = two();
        int[] due = {0, 0, 0, 0, 0, 0, 0, 1, 2, 3};
        for (int heat = 0; heat <= 9; heat++) {
            x.heat(heat);
            Due.due("scorches at HEAT " + heat, x.ofCrease(0, 7), due[heat]);
        }
    }

    // "price .. without: DEPTH (as it is then)".
    private static void price() {
        IronedOut x = two();
        Due.due("9", x.ofCrease(0, 8), 9);
        Due.due("1", x.ofCrease(1, 8), 1);
        x.press(0);
        Due.due("8", x.ofCrease(0, 8), 8);
        Due.due("paid as it is then", x.of(0, 1), 9991);
        x.heat(4);
        x.press(1);
        Due.due("gone: 0", x.ofCrease(1, 8), 0);
    }

    // Promise 15: "-2 for others."
    private static void playedOfOthers() {
        Twins.taken("played", EdgesOfTextsTest::some, IronedOut::played, -2, 0, 1);
        Twins.refused("played", EdgesOfTextsTest::some, IronedOut::played, -2, -1, -2, 2, 3, 4);
        Twins.refused("played of none", IronedOut::new, IronedOut::played, -2, -1, 0);
        Twins.refused("played of four", EdgesOfTextsTest::ofFour, IronedOut::played, -2, -1, 4);
    }

    // Promise 15: "NONE: all is done": of no CLAUSES, too.
    private static void playedOfNothing() {
        Twins.leaves("an empty TEXT", () -> {
            IronedOut x = some();
            Due.text(x, "");
            return x;
        }, x -> x.played(2), -1);
    }

    // "its CLAUSES but laws": laws do nothing, and THE TEXT stays.
    private static void playedButLaws() {
        Twins.leaves("laws alone", () -> {
            IronedOut x = some();
            Due.text(x, "presses 9; scorches 9; price 9;");
            return x;
        }, x -> x.played(2), -1);
        IronedOut x = two();
        Due.text(x, "presses 9; press 0;");
        Due.due("played", x.played(0), -1);
        Due.due("not by its own law", x.ofCrease(0, 2), 8);
    }

    // "its number among all CLAUSES (from 0)": laws are counted.
    private static void playedNumberAmongAll() {
        String[] texts = {"press 11;", "heat 1; press 11;", "presses 1; scorches 1; price 1; press 11; heat 9;",
            "heat 2;".repeat(23) + "press 11;", "price 1;" + "heat 2;".repeat(22) + "pattern 0;"};
        int[] due = {0, 1, 3, 23, 23};
        for (int i = 0; i < texts.length; i++) {
            IronedOut x = two();
            Due.due("a TEXT", Due.text(x, texts[i]), 0);
            Due.due("can't be", x.played(0), due[i]);
        }
    }

    // "one that can't be ends it .. what was done stays": each kind of CLAUSE that by hand is refused.
    private static void playedThatCannotBe() {
        String[] clauses = {"press 2;", "press 1;", "pattern 0;", "pattern 2;", "tie 0 to 0;", "tie 1 to 0;", "tie 0 to 2;",
            "tie 2 to 0;", "crease 2 year 0 depth 1;"};
        for (String clause : clauses) {
            IronedOut x = two();
            x.heat(4);
            x.press(1);
            Due.text(x, "heat 7; " + clause + " heat 8;");
            Due.due(clause, x.played(0), 1);
            Due.due("what was done stays", x.is(1), 7);
            Due.due("no STEP", x.about(3), 1);
        }
        IronedOut x = new IronedOut();
        Due.text(x, "person 0 coins 0;".repeat(6));
        Due.due("the sixth PERSON", x.played(0), 5);
        Due.due("PERSONS", x.about(0), 5);
        x = new IronedOut();
        Due.text(x, "crease 0 year 0 depth 1;".repeat(9));
        x.person(0, 0);
        Due.due("nine", x.played(0), -1);
        Due.due("the 13th CREASE", x.played(0), 3);
        Due.due("CREASES", x.is(3), 12);
    }

    // "(of so many HOURS those that can pass do ..)".
    private static void playedHours() {
        IronedOut x = new IronedOut();
        int text = Due.text(x, "hour 60;".repeat(24));
        int one = Due.text(x, "hour 1; heat 9;");
        int most = Due.text(x, "hour 9; heat 8;");
        for (int i = 0; i < 6; i++) {
            Due.due("all pass", x.played(text), -1);
        }
        Due.due("22 of 24 and 39", x.played(text), 22);
        Due.due("those that can pass do", x.is(0), 9999);
        Due.due("none can pass", x.played(one), 0);
        Due.due("the rest isn't done", x.is(1), 5);
        x.undo();
        Due.due("each was a STEP", x.is(0), 9998);
        Due.due("one of nine", x.played(most), 0);
        Due.due("it did", x.is(0), 9999);
        Due.due("30 STEPS", x.about(3), 30);
        x.undo();
        Due.due("one of one", x.played(one), -1);
        Due.due("HEAT", x.is(1), 9);
    }

    // "as by hand": each NUMBER, the least and the greatest, comes to where it belongs.
    private static void playedAsByHand() {
        IronedOut played = new IronedOut();
        IronedOut hand = new IronedOut();
        for (int i = 0; i < 6; i++) {
            played.person(i % 3, i);
            hand.person(i % 3, i);
        }
        for (int i = 0; i < 12; i++) {
            played.crease(i % 5, i, 2, i - 6);
            hand.crease(i % 5, i, 2, i - 6);
        }
        String text = "heat 6;tie 0 to 11;tie 11 to 3;press 11;press 3;press 5;damp 1;damp 9;pattern 11;heat 0;press 0;";
        Due.text(played, text);
        Due.text(hand, text);
        Due.due("played", played.played(0), 8);
        hand.heat(6);
        hand.tie(0, 11);
        hand.tie(11, 3);
        hand.press(11);
        hand.press(3);
        hand.press(5);
        hand.damp(1);
        hand.damp(9);
        Due.due("that can't be", hand.pattern(11), false);
        Twins.alike("played as by hand", played, hand);
    }

    // "DAMP always can".
    private static void playedDamp() {
        IronedOut x = new IronedOut();
        Due.text(x, "damp 9; damp 1; heat 9;");
        Due.due("without CREASES", x.played(0), -1);
        Due.due("HEAT", x.is(1), 9);
        Due.due("STEPS", x.about(3), 2);
    }
}
