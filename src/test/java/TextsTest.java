/** Promises 6 to 10 and 15: the tape, TEXTS, their FAULTS, THE TEXT, and PLAYED. */
public final class TextsTest {
    private static final String DAMPS_24 = "damp 1;".repeat(24);

    public static void main(String[] args) {
        tape();
        reading();
        soundOnes();
        faultsOfStanding();
        faultsOfNumbers();
        faultsOfDepth();
        faultsOfLawsAndNames();
        faultsOfClauses();
        theLeastOfOneToken();
        ruling();
        sums();
        asks();
        names();
        bounds();
        played();
        playedNumbers();
        playedThatCannot();
        Due.finish();
    }

    private static void tape() {
        IronedOut x = new IronedOut();
        Due.due("end(0)", x.end(0), 0);
        Due.due("end(1)", x.end(1), -1);
        Due.due("end(-1)", x.end(-1), -1);
        for (int i = 1; i <= 15; i++) {
            Due.due("feed", x.feed(0x64616d70, 0x20313b20, 0x20202020, 0x20202020, 0x20202020), 20 * i);
        }
        Due.due("feed above 300", x.feed(1, 2, 3, 4, 5), -1);
        Due.due("bytes", x.about(9), 300);
        Due.due("end(301)", x.end(301), -1);
        Due.due("bytes", x.about(9), 300);
        Due.due("end(300)", x.end(300), 300);
        Due.due("end(281)", x.end(281), 281);
        Due.due("feed above 300", x.feed(1, 2, 3, 4, 5), -1);
        Due.due("end(280)", x.end(280), 280);
        Due.due("feed to 300", x.feed(0x20202020, 0x20202020, 0x20202020, 0x20202020, 0x20202020), 300);
        Due.due("text", x.text(), 0);
        Due.due("bytes", x.about(9), 0);
        Due.due("played", x.played(0), -1);
        Due.due("STEPS", x.about(3), 14);
    }

    private static void reading() {
        IronedOut x = new IronedOut();
        Due.due("fault ahead of any", x.fault(0), -1);
        Due.due("faulty", Due.text(x, "damp 1; dump 2;"), -1);
        Due.due("the tape is empty", x.about(9), 0);
        Due.due("fault(0)", x.fault(0), 1);
        Due.due("fault(1)", x.fault(1), 8);
        Due.due("fault(2)", x.fault(2), -1);
        Due.due("fault(-1)", x.fault(-1), -1);
        Due.due("an empty one", x.text(), 0);
        Due.due("fault(0)", x.fault(0), 0);
        Due.due("fault(1)", x.fault(1), -1);
        Due.due("fault(2)", x.fault(2), -1);
        for (int i = 1; i < 4; i++) {
            Due.due("text " + i, Due.text(x, "price " + i + ";"), i);
        }
        Due.due("TEXTS", x.about(1), 4);
        Due.due("a fifth", Due.text(x, "damp;"), -1);
        Due.due("the tape stays", x.about(9), 5);
        Due.due("it was not read", x.fault(0), 0);
        Due.due("TEXTS", x.about(1), 4);
    }

    private static void soundOnes() {
        Due.sound("");
        Due.sound(" \n ");
        Due.sound("presses 1;scorches 2;price 3;");
        Due.sound("price3;");
        Due.sound("person2coins9999;");
        Due.sound("person 0 coins 0;crease 4 year 99 depth 9;crease 0 year 0 depth 1;");
        Due.sound("tie 11 to 0;tie 0 to 0;heat 0;heat 9;press 0;press 11;pattern 11;damp 1;damp 9;hour 1;hour 60;");
        Due.sound("price 1+2-3*4/5;");
        Due.sound("price hour+heat+who+skin+year+depth+worth+coins+ties;");
        Due.sound("scorches hour+heat+who+skin+year+depth+worth+ties;");
        Due.sound("presses hour+heat+who+skin+year+depth+worth;");
        Due.sound("price if 1<2 and 3<=4 and 5>6 or 7>=8 and not 1=2 or 3#4 then 1 else 2 end;");
        Due.sound("price ((((((((1))))))));");
        Due.sound("price --------1;");
        Due.sound("price 1-(-(-(-(-1))));");
        Due.sound("price turned turned turned turned turned turned turned turned 1;");
        Due.sound("price deep deep deep deep deep deep deep deep 1+(((((((1)))))));");
        Due.sound("price if not not not not not not not 1=1 then 1 else 2 end;");
        Due.sound("price if (((((((1)))))))=1 then (((((((1))))))) - 1 else 2 end;");
        Due.sound("price 1---------1;");
        Due.sound("price 00000000000000000009999;");
        Due.sound("damp\n1\n;\n");
        Due.sound(DAMPS_24);
        Due.sound("hour 007;");
        Due.sound("tie 0 to 11;");
        Due.sound("price " + "1+".repeat(146) + "1;");
    }

    private static void faultsOfStanding() {
        Due.faulty("@", 1, 0);
        Due.faulty("  \n foo", 1, 4);
        Due.faulty("7;", 1, 0);
        Due.faulty(";", 1, 0);
        Due.faulty("hours 1;", 1, 0);
        Due.faulty("Hour 1;", 1, 0);
        Due.faulty("hourA 1;", 1, 0);
        Due.faulty("hourz 1;", 1, 0);
        Due.faulty("hourZ 1;", 1, 0);
        Due.faulty("hou 1;", 1, 0);
        Due.faulty("hour`1;", 1, 4);
        Due.faulty("hour{1;", 1, 4);
        Due.faulty("hour[1;", 1, 4);
        Due.faulty("hour/1;", 1, 4);
        Due.faulty("hour:1;", 1, 4);
        Due.faulty("hour\t1;", 1, 4);
        Due.faulty("hour 1\r;", 1, 6);
        Due.faulty("hour 1;\0", 1, 7);
        Due.faulty("price \u00e9;", 1, 6);
        Due.faulty("hour", 1, 4);
        Due.faulty("hour  ", 1, 6);
        Due.faulty("hour 1", 1, 6);
        Due.faulty("hour 1  \n", 1, 9);
        Due.faulty("hour hour;", 1, 5);
        Due.faulty("hour -1;", 1, 5);
        Due.faulty("person 1 coin 1;", 1, 9);
        Due.faulty("person 1 1;", 1, 9);
        Due.faulty("crease 1 depth 1 year 1;", 1, 9);
        Due.faulty("crease 1 year 1 1;", 1, 16);
        Due.faulty("tie 1 2;", 1, 6);
        Due.faulty("tie 1 to;", 1, 8);
        Due.faulty("price;", 1, 5);
        Due.faulty("price 1", 1, 7);
        Due.faulty("price 1 2;", 1, 8);
        Due.faulty("price 1 coins;", 1, 8);
        Due.faulty("price 1 +;", 1, 9);
        Due.faulty("price + 1;", 1, 6);
        Due.faulty("price * 1;", 1, 6);
        Due.faulty("price (1;", 1, 8);
        Due.faulty("price 1);", 1, 7);
        Due.faulty("price ();", 1, 7);
        Due.faulty("price 1=1;", 1, 7);
        Due.faulty("price (1<1);", 1, 8);
        Due.faulty("price 12a;", 1, 8);
        Due.faulty("price who is;", 1, 10);
        Due.faulty("price person;", 1, 6);
        Due.faulty("price to;", 1, 6);
        Due.faulty("price not 1;", 1, 6);
        Due.faulty("price if then;", 1, 9);
        Due.faulty("price if 1 then 2 else 3 end;", 1, 11);
        Due.faulty("price if 1<2<3 then 2 else 3 end;", 1, 12);
        Due.faulty("price if (1<2) then 2 else 3 end;", 1, 11);
        Due.faulty("price if 1<2 else 3 end;", 1, 13);
        Due.faulty("price if 1<2 then 3 end;", 1, 20);
        Due.faulty("price if 1<2 then 3 else 4;", 1, 26);
        Due.faulty("price if 1<2 then 3 else 4 end 5;", 1, 31);
        Due.faulty("price if 1< =2 then 3 else 4 end;", 1, 12);
        Due.faulty("price if 1=<2 then 3 else 4 end;", 1, 11);
        Due.faulty("price if 1<==2 then 3 else 4 end;", 1, 12);
        Due.faulty("price if 1=2 and then 3 else 4 end;", 1, 17);
        Due.faulty("price if 1=2 not 3=4 then 3 else 4 end;", 1, 13);
        Due.faulty("price if 1=2 and 3=4 or", 1, 23);
        Due.faulty("price if not", 1, 12);
        Due.faulty("price 1;;", 1, 8);
        Due.faulty("end;", 1, 0);
        Due.faulty("price 1!2;", 1, 7);
    }

    private static void faultsOfNumbers() {
        Due.faulty("person 3 coins 1;", 2, 7);
        Due.faulty("person 0 coins 10000;", 2, 15);
        Due.faulty("crease 5 year 0 depth 1;", 2, 7);
        Due.faulty("crease 0 year 100 depth 1;", 2, 14);
        Due.faulty("crease 0 year 0 depth 0;", 2, 22);
        Due.faulty("crease 0 year 0 depth 10;", 2, 22);
        Due.faulty("tie 12 to 0;", 2, 4);
        Due.faulty("tie 0 to 12;", 2, 9);
        Due.faulty("heat 10;", 2, 5);
        Due.faulty("press 12;", 2, 6);
        Due.faulty("pattern 12;", 2, 8);
        Due.faulty("damp 0;", 2, 5);
        Due.faulty("damp 10;", 2, 5);
        Due.faulty("hour 0;", 2, 5);
        Due.faulty("hour 61;", 2, 5);
        Due.faulty("price 10000;", 2, 6);
        Due.faulty("price 1+99999999999999999999;", 2, 8);
        Due.faulty("price 4294967296;", 2, 6);
        Due.faulty("press 4294967296;", 2, 6);
    }

    private static void faultsOfDepth() {
        Due.faulty("price (((((((((1", 3, 14);
        Due.faulty("price ---------1;", 3, 14);
        Due.faulty("price 1----------1;", 3, 16);
        Due.faulty("price turned deep -(turned deep -(turned 1));", 3, 34);
        Due.faulty("price if not not not not not not not not 1=1 then 1 else 2 end;", 3, 37);
        Due.faulty("price if 1=(if 1=(if 1=(if 1=(if", 3, 30);
        Due.faulty("price ((((((((if 1=1", 3, 14);
        Due.faulty("price if 1=1 then ((((((((1", 3, 25);
        Due.faulty("price if 1=1 then 1 else ((((((((1", 3, 32);
    }

    private static void faultsOfLawsAndNames() {
        Due.faulty("price 1;price 1;", 4, 8);
        Due.faulty("presses 1;presses 1;", 4, 10);
        Due.faulty("scorches 1; heat 1; scorches", 4, 20);
        Due.faulty("presses coins;", 5, 8);
        Due.faulty("presses ties;", 5, 8);
        Due.faulty("scorches coins;", 5, 9);
        Due.faulty("scorches 1+deep (coins);", 5, 17);
        Due.faulty("price coins; presses ties;", 5, 21);
        Due.faulty("presses if coins=1 then 1 else 2 end;", 5, 11);
    }

    private static void faultsOfClauses() {
        Due.faulty(DAMPS_24 + "damp 1;", 6, 168);
        Due.faulty(DAMPS_24 + " damp", 6, 169);
        Due.faulty("price 1;" + DAMPS_24, 6, 169);
    }

    private static void theLeastOfOneToken() {
        Due.faulty("damp 1 10000;", 1, 7);
        Due.faulty("price 1 10000;", 1, 8);
        Due.faulty(DAMPS_24 + "foo", 1, 168);
        Due.faulty(DAMPS_24 + "9", 1, 168);
        Due.faulty("price 1;" + DAMPS_24.substring(7) + "price", 4, 169);
        Due.faulty("price ((((((((*", 1, 14);
        Due.faulty("price ((((((((1(", 1, 15);
        Due.faulty("presses 1 coins;", 1, 10);
        Due.faulty("price turned not;", 1, 13);
    }

    private static void ruling() {
        IronedOut x = new IronedOut();
        Due.due("by(0) of none", x.by(0), false);
        Due.due("by(-1)", x.by(-1), true);
        Due.due("by(-2)", x.by(-2), false);
        x.person(0, 100);
        x.crease(0, 5, 9, 0);
        Due.text(x, "presses 7;");
        Due.text(x, "scorches 3; price 8;");
        Due.due("THE TEXT", x.about(2), -1);
        Due.due("by(1)", x.by(1), true);
        Due.due("THE TEXT", x.about(2), 1);
        Due.due("by(2)", x.by(2), false);
        Due.due("THE TEXT", x.about(2), 1);
        Due.due("presses without", x.ofCrease(0, 6), 2);
        Due.due("scorches", x.ofCrease(0, 7), 3);
        Due.due("price", x.ofCrease(0, 8), 8);
        Due.due("by(0)", x.by(0), true);
        Due.due("presses", x.ofCrease(0, 6), 7);
        Due.due("scorches without", x.ofCrease(0, 7), 0);
        Due.due("price without", x.ofCrease(0, 8), 9);
        Due.due("by(-1)", x.by(-1), true);
        Due.due("THE TEXT", x.about(2), -1);
        Due.due("presses", x.ofCrease(0, 6), 2);
    }

    private static IronedOut two() {
        IronedOut x = new IronedOut();
        x.person(0, 100);
        x.person(2, 1234);
        x.crease(1, 57, 9, -3);
        x.crease(0, 20, 4, 5);
        x.tie(1, 0);
        return x;
    }

    private static void sums() {
        IronedOut x = two();
        Due.worked(x, 0, "1+2*3", 7);
        Due.worked(x, 0, "(1+2)*3", 9);
        Due.worked(x, 0, "10-3-2", 5);
        Due.worked(x, 0, "100/7/2", 7);
        Due.worked(x, 0, "100/(7/2)", 33);
        Due.worked(x, 0, "7*3/2", 10);
        Due.worked(x, 0, "7/2*3", 9);
        Due.worked(x, 0, "10-7/2", 7);
        Due.worked(x, 0, "10+(0-7)/2", 7);
        Due.worked(x, 0, "10+-7/2", 7);
        Due.worked(x, 0, "10-7/-2", 13);
        Due.worked(x, 0, "5/0+3", 3);
        Due.worked(x, 0, "3--2", 5);
        Due.worked(x, 0, "--3", 3);
        Due.worked(x, 0, "-3*-4", 12);
        Due.worked(x, 0, "9999*9999/1000", 1000);
        Due.worked(x, 0, "(0-9999)*9999/-1000", 1000);
        Due.worked(x, 0, "9999*9999-9999*100", 100);
        Due.worked(x, 0, "9999*100+200+200-9999*100", 100);
        Due.worked(x, 0, "-9999*100-200+9999*100+200", 100);
        Due.worked(x, 0, "turned 120", 21);
        Due.worked(x, 0, "turned -120", 21);
        Due.worked(x, 0, "-turned 120+30", 9);
        Due.worked(x, 0, "turned 0", 0);
        Due.worked(x, 0, "turned 7", 7);
        Due.worked(x, 0, "turned 12+30", 51);
        Due.worked(x, 0, "turned (12+30)", 24);
        Due.worked(x, 0, "turned (9999*9999)", 1);
        Due.worked(x, 0, "turned (9999*100)", 9999);
        Due.worked(x, 0, "turned turned 120", 12);
        Due.worked(x, 0, "deep 0", 9);
        Due.worked(x, 0, "deep 1", 4);
        Due.worked(x, 0, "deep 2", 0);
        Due.worked(x, 0, "deep -1", 0);
        Due.worked(x, 0, "deep 9999", 0);
        Due.worked(x, 0, "deep 0+1", 10);
        Due.worked(x, 0, "deep (0+1)", 4);
        Due.worked(x, 0, "deep deep 3", 9);
        Due.worked(x, 0, "1+".repeat(146) + "1", 147);
        Due.worked(x, 0, "1+2+3+4+5+6+7+8+9+(1+(2+(3+(4+(5*(6+(7*8)))))))", 365);
    }

    private static void asks() {
        IronedOut x = two();
        String[] signs = {"<", "<=", ">", ">=", "=", "#"};
        int[][] due = {{1, 0, 0}, {1, 1, 0}, {0, 0, 1}, {0, 1, 1}, {0, 1, 0}, {1, 0, 1}};
        for (int i = 0; i < signs.length; i++) {
            for (int left = 4; left <= 6; left++) {
                Due.worked(x, 0, "if " + left + signs[i] + "5 then 1 else 0 end", due[i][left - 4]);
            }
        }
        Due.worked(x, 0, "if 1+1=2*1 then 8 else 9 end+1", 9);
        Due.worked(x, 0, "if 1=1 or 1=2 and 1=3 then 1 else 0 end", 1);
        Due.worked(x, 0, "if 1=2 and 1=3 or 1=1 then 1 else 0 end", 1);
        Due.worked(x, 0, "if 1=1 and 1=2 or 1=3 then 1 else 0 end", 0);
        Due.worked(x, 0, "if not 1=1 or 1=1 then 1 else 0 end", 1);
        Due.worked(x, 0, "if 1<2 and 2=2 and 2<=2 and 3>2 and 3>=2 and 3#2 and not 1=2 then 1 else 0 end", 1);
        Due.worked(x, 0, "if 2=2 and 1<2 then 1 else 0 end", 1);
        Due.worked(x, 0, "if not 1=2 and 1=2 then 1 else 0 end", 0);
        Due.worked(x, 0, "if not not 1=1 then 1 else 0 end", 1);
        Due.worked(x, 0, "if not not not 1=1 then 1 else 0 end", 0);
        Due.worked(x, 0, "if 1=2 then 1 else if 2=2 then 5 else 6 end end", 5);
        Due.worked(x, 0, "if 1=1 then if 2=3 then 5 else 6 end else 1 end", 6);
        Due.worked(x, 0, "3*if if 1=1 then 2 else 3 end=2 then 4 else 5 end-1", 11);
        Due.worked(x, 0, "-if 1=1 then 2 else 3 end+5", 3);
    }

    private static void names() {
        IronedOut x = two();
        x.hour(7);
        x.heat(8);
        Due.worked(x, 0, "hour", 7);
        Due.worked(x, 0, "heat", 8);
        Due.worked(x, 0, "who", 1);
        Due.worked(x, 1, "who", 0);
        Due.worked(x, 0, "skin", 2);
        Due.worked(x, 1, "skin", 0);
        Due.worked(x, 0, "year", 57);
        Due.worked(x, 1, "depth", 4);
        Due.worked(x, 0, "worth+10", 7);
        Due.worked(x, 1, "worth", 5);
        Due.worked(x, 0, "coins", 1234);
        Due.worked(x, 1, "coins", 100);
        Due.worked(x, 0, "ties", 2);
        Due.worked(x, 1, "ties", 1);
        x.by(Due.text(x, "scorches ties;presses 9;"));
        Due.due("scorches by ties", x.ofCrease(0, 7), 2);
        x.press(1);
        Due.worked(x, 0, "ties", 2);
        Due.worked(x, 1, "depth+deep 1", 0);
    }

    private static void bounds() {
        IronedOut x = two();
        x.by(Due.text(x, "presses worth*1000;scorches worth*1000;price worth*9999;"));
        Due.due("presses at least", x.ofCrease(0, 6), 0);
        Due.due("scorches at least", x.ofCrease(0, 7), 0);
        Due.due("price at least", x.ofCrease(0, 8), 0);
        Due.due("presses at most", x.ofCrease(1, 6), 9);
        Due.due("scorches at most", x.ofCrease(1, 7), 10);
        Due.due("price at most", x.ofCrease(1, 8), 9999);
    }

    private static void played() {
        IronedOut x = new IronedOut();
        Due.due("played(0) of none", x.played(0), -2);
        Due.due("played(-1)", x.played(-1), -2);
        Due.text(x, "presses 3;person 2 coins 500;crease 0 year 7 depth 5;price 9;crease 0 year 8 depth 6;"
            + "tie 1 to 0;heat 3;press 0;damp 2;hour 12;scorches 0;");
        Due.due("played", x.played(0), -1);
        Due.due("played(1)", x.played(1), -2);
        Due.due("THE TEXT stays", x.about(2), -1);
        Due.due("PERSONS", x.about(0), 1);
        Due.due("SKIN", x.of(0, 0), 2);
        Due.due("COINS", x.of(0, 1), 496);
        Due.due("CREASES", x.is(3), 2);
        Due.due("YEAR", x.ofCrease(0, 1), 7);
        Due.due("WORTH", x.ofCrease(1, 3), 1);
        Due.due("DEPTH", x.ofCrease(0, 2), 5);
        Due.due("hangs", x.ofCrease(1, 5), 1);
        Due.due("HEAT", x.is(1), 3);
        Due.due("HOUR", x.is(0), 12);
        Due.due("STEPS", x.about(3), 14);
        Due.due("again: the CREASES are new, the TIE isn't", x.played(0), 5);
        Due.due("CREASES", x.is(3), 4);
        Due.due("HEAT", x.is(1), 3);
        Due.due("STEPS", x.about(3), 14);
    }

    /** Each NUMBER comes to where it belongs. */
    private static void playedNumbers() {
        IronedOut x = new IronedOut();
        Due.text(x, "person 1 coins 22;person 0 coins 30;crease 1 year 44 depth 5;crease 0 year 66 depth 3;tie 0 to 1;"
            + "heat 7;");
        Due.due("played", x.played(0), -1);
        Due.due("SKIN", x.of(0, 0) * 10 + x.of(1, 0), 10);
        Due.due("COINS", x.of(0, 1) * 100 + x.of(1, 1), 2230);
        Due.due("PERSONS", x.ofCrease(0, 0) * 10 + x.ofCrease(1, 0), 10);
        Due.due("YEARS", x.ofCrease(0, 1) * 100 + x.ofCrease(1, 1), 4466);
        Due.due("DEPTHS", x.ofCrease(0, 2) * 10 + x.ofCrease(1, 2), 53);
        Due.due("the TIE", x.ofCrease(0, 5) * 10 + x.ofCrease(1, 5), 20);
        Due.due("HEAT", x.is(1), 7);
        Due.text(x, "presses 9;scorches 0;");
        x.by(1);
        Due.text(x, "press 1;damp 1;");
        Due.due("played", x.played(2), -1);
        Due.due("1 goes, then 0 may come back no more than 1", x.of(0, 3) | x.of(1, 3), 2);
        Due.text(x, "damp 2;pattern 0;press 1;pattern 1;hour 2;");
        x.press(1);
        Due.due("1 is back, 0 is back, both go, 1 is back", x.played(3), -1);
        Due.due("there", x.of(0, 3) | x.of(1, 3), 2);
        Due.due("book", x.book(-1, 0), 9);
        Due.due("HOUR", x.is(0), 2);
        Due.due("0 is back by damp already", x.played(3), 1);
        Due.due("HOUR", x.is(0), 2);
    }

    private static void playedThatCannot() {
        IronedOut x = new IronedOut();
        Due.text(x, "heat 1;crease 0 year 1 depth 1;heat 2;");
        Due.due("no PERSON", x.played(0), 1);
        Due.due("what was done stays", x.is(1), 1);
        Due.text(x, "price 1;press 0;");
        Due.due("no CREASE to press", x.played(1), 1);
        Due.text(x, "pattern 0;");
        Due.due("no CREASE to lay", x.played(2), 0);
        Due.text(x, "person 0 coins 0;person 0 coins 0;person 0 coins 0;person 0 coins 0;hour 60;person 0 coins 0;"
            + "person 0 coins 0;");
        Due.due("the sixth PERSON", x.played(3), 6);
        Due.due("HOUR", x.is(0), 60);
        x.back();
        Due.text(x, "hour 60;hour 60;hour 60;hour 60;hour 60;hour 60;hour 60;hour 60;hour 60;hour 60;hour 60;");
        for (int i = 0; i < 15; i++) {
            Due.due("hours", x.played(0), -1);
        }
        Due.due("HOUR", x.is(0), 9900);
        Due.due("two of eleven", x.played(0), 1);
        Due.due("those that can pass do", x.is(0), 9999);
        Due.due("none can pass", x.played(0), 0);
        Due.due("hour(1)", x.hour(1), -1);
        Due.due("undo", x.undo(), 29);
        Due.due("HOUR", x.is(0), 9998);
        Due.due("hour(2)", x.hour(2), -1);
        Due.due("HOUR", x.is(0), 9998);
        Due.due("hour(1)", x.hour(1), 9999);
    }
}
