/** The law: its text, its faults, and what a sign pays by it (promises 8, 9, 18). */
final class LawEdges extends EdgeGroup {
    LawEdges(Edges edges) {
        super(edges);
    }

    @Override
    void all() {
        emptyAtFirst();
        lines();
        choices();
        joined();
        claims();
        sums();
        products();
        units();
        letters();
        digits();
        symbols();
        blanks();
        intsWrap();
        towardsZero();
        firstByPlace();
        leastAtOnePlace();
        cannotStand();
        partByZero();
        seventeenthLine();
        ninthOpen();
        firstLineThatIsSo();
        heldTo99();
        factSign();
        factPlace();
        factLong();
        factUsed();
        factVowel();
        factOwner();
        factDay();
        factLeft();
        factFirst();
        wordAsLongAsMayBe();
        text();
        textRefused();
        fault();
        faultRefused();
        paysAt();
        paysRefused();
    }

    private void right(String text, int lines) {
        due("'" + text + "'", Check.law(new CommaOrphans(), text), lines);
    }

    private void wrong(String text, int fault, int place) {
        CommaOrphans x = new CommaOrphans();
        due("'" + text + "'", Check.law(x, text), NONE);
        due("fault of '" + text + "'", x.fault(0), fault);
        due("place in '" + text + "'", x.fault(1), place);
    }

    /** Whether a claim is so, on a page of one sign a at place 0. */
    private void so(String claim, boolean want) {
        CommaOrphans x = owned("a", "");
        Check.page(x, "a");
        due("a law with " + claim, Check.law(x, "pay 8 when " + claim + ";pay 4;"), 2);
        due(claim, x.pays(0), want ? 8 : 4);
    }

    private void worth(String sum, int want) {
        CommaOrphans x = owned("a", "");
        Check.page(x, "a");
        pays(x, "pay " + sum + ";", want);
    }

    private void emptyAtFirst() {
        term("THE LAW is a TEXT (empty at first)");
        CommaOrphans x = owned("a", "");
        Check.page(x, "a");
        due("no lines", x.look(7), 0);
        due("each sign pays 1", x.pays(0), 1);
    }

    private void lines() {
        term("= {pay E [when B] ;}.");
        right("", 0);
        right("pay 1;", 1);
        right("pay 1 when 1<2;", 1);
        right("pay 1;pay 2 when 1<2;pay 3;", 3);
        wrong(";", 1, 0);
        wrong("1;", 1, 0);
        wrong("when 1<2;", 1, 0);
        wrong("pay;", 1, 3);
        wrong("pay when 1<2;", 1, 4);
        wrong("pay 1", 1, 5);
        wrong("pay 1 pay 2;", 1, 6);
        wrong("pay 1;;", 1, 6);
        wrong("pay 1;2;", 1, 6);
        wrong("pay 1 when;", 1, 10);
        wrong("pay 1 when 1<2", 1, 14);
        wrong("pay 1 when 1<2 when 1<2;", 1, 15);
        wrong("pay 1 when 1<2 pay 2;", 1, 15);
    }

    private void choices() {
        term("B = A {or A}.");
        so("1<0 or 2<0", false);
        so("1<0 or 0<1", true);
        so("0<1 or 1<0", true);
        so("1<0 or 2<0 or 3<0 or 0<1", true);
        so("0<1 or 0<1 and 1<0", true);
        so("1<0 and 0<1 or 0<1", true);
        so("1<0 or 0<1 and 1<0 or 2<0", false);
        wrong("pay 1 when or 1<2;", 1, 11);
        wrong("pay 1 when 1<2 or;", 1, 17);
        wrong("pay 1 when 1<2 or or 1<2;", 1, 18);
    }

    private void joined() {
        term("A = C {and C}.");
        so("0<1 and 1<2", true);
        so("0<1 and 1<0", false);
        so("1<0 and 0<1", false);
        so("0<1 and 1<2 and 2<3 and 3<2", false);
        so("0<1 and 1<2 and 2<3 and 3<4", true);
        wrong("pay 1 when and 1<2;", 1, 11);
        wrong("pay 1 when 1<2 and;", 1, 18);
        wrong("pay 1 when 1<2 and or 1<2;", 1, 19);
    }

    private void claims() {
        term("C = E (< | = | >) E | not C | ( B ).");
        so("1<2", true);
        so("2<2", false);
        so("2=2", true);
        so("2=1", false);
        so("2>1", true);
        so("2>2", false);
        so("not 1<2", false);
        so("not not 1<2", true);
        so("not 1<0 and 1<0", false);
        so("not 0<1 or 0<1", true);
        so("not(0<1 and 1<0)", true);
        so("(1<2)", true);
        so("(0<1 or 1<0)and 1<0", false);
        so("1+1=4-2", true);
        wrong("pay 1 when 1;", 1, 12);
        wrong("pay 1 when <2;", 1, 11);
        wrong("pay 1 when 1<;", 1, 13);
        wrong("pay 1 when 1<2<3;", 1, 14);
        wrong("pay 1 when 1<=2;", 1, 13);
        wrong("pay 1 when not;", 1, 14);
        wrong("pay 1 when ();", 1, 12);
        wrong("pay 1 when (1)<2;", 1, 13);
        wrong("pay 1 when (1<2;", 1, 15);
        wrong("pay 1 when 1<2);", 1, 14);
        wrong("pay 1 when (1<2)<3;", 1, 16);
    }

    private void sums() {
        term("E = T {(+ | -) T}.");
        worth("1+2", 3);
        worth("10-3-2", 5);
        worth("10-3+2", 9);
        worth("1+2*3", 7);
        worth("20-6/3", 18);
        wrong("pay -1;", 1, 4);
        wrong("pay +1;", 1, 4);
        wrong("pay 1+;", 1, 6);
        wrong("pay 1-;", 1, 6);
        wrong("pay 1--1;", 1, 6);
        wrong("pay (1+2);", 1, 4);
        wrong("pay 1+(2);", 1, 6);
    }

    private void products() {
        term("T = U {* U | / NUMBER}.");
        worth("2*3*4", 24);
        worth("99/7/2", 7);
        worth("2*7/3", 4);
        worth("7/2*2", 6);
        worth("0/5", 0);
        worth("5/1", 5);
        worth("5*0", 0);
        wrong("pay *1;", 1, 4);
        wrong("pay /1;", 1, 4);
        wrong("pay 1*;", 1, 6);
        wrong("pay 1/;", 1, 6);
        wrong("pay 1**2;", 1, 6);
        wrong("pay 5/sign;", 1, 6);
        wrong("pay 5/-1;", 1, 6);
        wrong("pay 5/(1);", 1, 6);
    }

    private void units() {
        term("U = NUMBER | sign | place | long | used | vowel | owner | day | left | first.");
        String[] those = {"7", "sign", "place", "long", "used", "vowel", "owner", "day", "left", "first"};
        for (String unit : those) {
            right("pay " + unit + "*" + unit + ";", 1);
            right("pay 1 when " + unit + "<" + unit + ";", 1);
            wrong("pay 1 " + unit + ";", 1, 6);
        }
        for (String none : new String[] {"pay", "when", "or", "and", "not", "(", ")", ";", "x"}) {
            wrong("pay " + none, 1, 4);
            wrong("pay 1+" + none, 1, 6);
        }
    }

    private void letters() {
        term("TOKENS: letters as many as stand together are KEYWORDS (those told here) or none");
        wrong("payday;", 1, 0);
        wrong("pays 1;", 1, 0);
        wrong("pa 1;", 1, 0);
        wrong("pa y 1;", 1, 0);
        wrong("xpay 1;", 1, 0);
        wrong("Pay 1;", 1, 0);
        wrong("payA", 1, 0);
        wrong("pay signday;", 1, 4);
        wrong("pay sig;", 1, 4);
        wrong("pay signs;", 1, 4);
        wrong("pay Sign;", 1, 4);
        wrong("pay signZ;", 1, 4);
        wrong("pay 1 whens 1<2;", 1, 6);
        wrong("pay 1 when notsign=1;", 1, 11);
        wrong("pay 1 when 1<2 orday<2;", 1, 15);
        wrong("pay a;", 1, 4);
        wrong("pay " + "a".repeat(396), 1, 4);
        for (char beside : "@[`{_".toCharArray()) {
            wrong("pay" + beside, 1, 3);
        }
        right("pay 1when 1<2and 1<2or 1<2;", 1);
        right("pay sign\n;", 1);
    }

    private void digits() {
        term("digits as many as stand together NUMBERS of 1 to 4 digits or none");
        worth("7", 7);
        worth("0042", 42);
        worth("9999-9990", 9);
        worth("0000", 0);
        wrong("pay 12345;", 1, 4);
        wrong("pay 00001;", 1, 4);
        wrong("pay " + "1".repeat(396), 1, 4);
        wrong("pay 12 34;", 1, 7);
        wrong("pay 1 when 12345<1;", 1, 11);
        right("pay 1 when 9999<1;", 1);
    }

    /** Behind "pay 1" each byte: what ends a number, goes on with it, joins another, or can't stand. */
    private void symbols() {
        term("; + - * / ( ) < = > .");
        for (int b = 0; b < 256; b++) {
            String text = "pay 1" + (char) b + ";";
            if (b == ' ' || b == '\n' || b >= '0' && b <= '9') {
                right(text, 1);
            } else {
                wrong(text, 1, ";+-*/".indexOf((char) b) >= 0 ? 6 : 5);
            }
        }
        right("pay 8/2+3*4-1when(1<2)or(2=2)or 3>2;", 1);
        wrong("pay 1.", 1, 5);
        wrong("pay 1,", 1, 5);
    }

    private void blanks() {
        term("Blanks (32, 10) between.");
        right("  pay\n\n 1\n;  \n", 1);
        right(" \n ", 0);
        right("pay 1 when ( 1 < 2 ) ;", 1);
        right("\npay\n1\nwhen\nnot\n1\n<\n2\n;", 1);
        wrong("pay\t1;", 1, 3);
        wrong("pay 1;\r\n", 1, 6);
        wrong("pay 1;" + (char) 0, 1, 6);
        wrong("pay 1;" + (char) 160, 1, 6);
        wrong("pay 1 2;", 1, 6);
    }

    private void intsWrap() {
        term("Ints, which wrap");
        String mostInt = "2147*1000*1000+483*1000+647";
        so(mostInt + ">0", true);
        so(mostInt + "+1<0", true);
        so(mostInt + "+1>0", false);
        so("0-" + mostInt.replace('+', '-') + "-2>0", true);
        worth("7+4096*16*4096*16", 7);
        worth("9999*9999*21", 99);
        worth("9999*9999*22", 0);
        worth("9999*9999*43+40", 99);
    }

    /** 9999 * 9999 * 22 is -2095407274 when it has wrapped. */
    private void towardsZero() {
        term("/ goes towards 0.");
        worth("2095*1000+412+9999*9999*22/1000", 5);
        worth("7/2", 3);
        worth("1/2", 0);
        so("9999*9999*22/9999/9999/22=0", true);
    }

    private void firstByPlace() {
        term("FAULTS, the first by its place");
        wrong("pay 5/0 x;", 2, 6);
        wrong("pay x 5/0;", 1, 4);
        wrong("pay 5/0 when (((((((((1<2;", 2, 6);
        wrong("pay 1 when (((((((((5/0", 3, 19);
        wrong("pay 1 when ((((((((5/0>(", 2, 21);
        wrong("pay 1;".repeat(16) + "pay 5/0;", 3, 96);
        wrong("pay 5/0;" + "pay 1;".repeat(16), 2, 6);
        wrong("pay 1;".repeat(15) + "pay 1/0;" + "pay x;", 2, 96);
        wrong("pay 5/0/0;", 2, 6);
        wrong("x y", 1, 0);
    }

    private void leastAtOnePlace() {
        term("at one place the least");
        wrong("pay 5/00000;", 1, 6);
        wrong("pay 1 when ((((((((1(", 1, 20);
        wrong("pay 1 when (((((((((", 3, 19);
        wrong("pay 1 when not not not not not not not not 1 not", 1, 45);
        wrong("pay 1;".repeat(15) + "pay 1 pay 2;", 1, 96);
        wrong("pay 1;".repeat(16) + "payA", 1, 96);
        wrong("pay 1;".repeat(16) + "x", 1, 96);
    }

    private void cannotStand() {
        term("1 what can't stand there (the end: the text's length).");
        wrong("x", 1, 0);
        wrong("  x", 1, 2);
        wrong("pay 1;  x", 1, 8);
        wrong("pay", 1, 3);
        wrong("pay  \n", 1, 6);
        wrong("pay 1", 1, 5);
        wrong("pay 1 ", 1, 6);
        wrong("pay 5/", 1, 6);
        wrong("pay 1 when", 1, 10);
        wrong("pay 1 when not", 1, 14);
        wrong("pay 1 when (1<2", 1, 15);
        wrong("pay 1 when (1<2)", 1, 16);
        wrong("pay 1" + "+1".repeat(197) + "+", 1, 400);
        wrong("pay 1;" + " ".repeat(393) + "x", 1, 399);
        wrong(" ".repeat(399) + ";", 1, 399);
        wrong(";".repeat(400), 1, 0);
        wrong("pay 1" + "+".repeat(395), 1, 6);
        right("pay 1;" + " ".repeat(394), 1);
    }

    private void partByZero() {
        term("2 (at the NUMBER) a part by 0.");
        wrong("pay 5/0;", 2, 6);
        wrong("pay 5/00;", 2, 6);
        wrong("pay 5/000;", 2, 6);
        wrong("pay 5/0000;", 2, 6);
        wrong("pay 5/ \n0;", 2, 8);
        wrong("pay 5/0", 2, 6);
        wrong("pay 5/2/0;", 2, 8);
        wrong("pay 5*2/0;", 2, 8);
        wrong("pay 1+5/0;", 2, 8);
        wrong("pay 1 when 5/0>1;", 2, 13);
        wrong("pay 1 when 1<5/0;", 2, 15);
        wrong("pay 1 when not 5/0>1;", 2, 17);
        wrong("pay 1 when (5/0>1);", 2, 14);
        wrong("pay 1 when 1<2 or 5/0>1;", 2, 20);
        wrong("pay 1 when 1<2 and 5/0>1;", 2, 21);
        right("pay 5/1;", 1);
        right("pay 5/0001;", 1);
        right("pay 5/10;", 1);
    }

    private void seventeenthLine() {
        term("3 (at its KEYWORD) the 17th line");
        right("pay 1;".repeat(16), 16);
        right("pay 1;".repeat(16) + " \n", 16);
        wrong("pay 1;".repeat(17), 3, 96);
        wrong("pay 1;".repeat(16) + " \npay 1;", 3, 98);
        wrong("pay 1;".repeat(16) + "pay", 3, 96);
        wrong("pay 1;".repeat(16) + "pay x", 3, 96);
        wrong("pay 1;".repeat(60), 3, 96);
        CommaOrphans x = owned("a", "");
        Check.page(x, "a");
        pays(x, "pay 1 when 1<0;".repeat(15) + "pay 16;", 16);
        pays(x, "pay 9 when 1<0;".repeat(16), 1);
        pays(x, "pay 9 when 1<0;".repeat(15) + "pay 16 when 0<1;", 16);
    }

    private void ninthOpen() {
        term("(at it) the 9th ( or not that is open.");
        right("pay 1 when ((((((((1<2))))))));", 1);
        wrong("pay 1 when (((((((((1<2)))))))));", 3, 19);
        right("pay 1 when not not not not not not not not 1<2;", 1);
        wrong("pay 1 when not not not not not not not not not 1<2;", 3, 43);
        right("pay 1 when not(not(not(not(1<2))));", 1);
        wrong("pay 1 when not(not(not(not((1<2)))));", 3, 27);
        wrong("pay 1 when not(not(not(not(not 1<2))));", 3, 27);
        wrong("pay 1 when ((((((((1<2 and not 1<2))))))));", 3, 27);
        wrong("pay 1 when ((((((((not", 3, 19);
        so("1<0 or 0<1 and(".repeat(8) + "1<0 or 0<1 and 2*3+4*5-6=20" + ")".repeat(8), true);
        so("1<0 or 0<1 and(".repeat(8) + "1<0 or 0<1 and 2*3+4*5-6=21" + ")".repeat(8), false);
        right("pay 1 when ((((((((1<2))))))))and((((((((1<2))))))));", 1);
        right("pay 1 when not 1<2" + " or not 1<2".repeat(20) + ";", 1);
        right("pay 1 when (((((((not 1<2 and not 1<2 or(1<2))))))));", 1);
        right("pay 1 when ((((((((1<2))))))));pay 1 when ((((((((1<2))))))));", 2);
    }

    private void firstLineThatIsSo() {
        term("A SIGN at a place of a row PAYS E of the first line whose B is so, or that has none (none: 1)");
        CommaOrphans x = owned("abc", "");
        Check.page(x, "abc");
        pays(x, "pay 5 when sign=0;pay 6 when sign<2;", 5, 6, 1);
        pays(x, "pay 5 when sign=0;pay 7;pay 6 when sign<2;", 5, 7, 7);
        pays(x, "pay 5;pay 6;", 5, 5, 5);
        pays(x, "pay 5 when 1<0;", 1, 1, 1);
        pays(x, "pay 0 when sign=1;", 1, 0, 1);
        Check.law(x, "");
        due("no line at all", x.pays(0), 1);
    }

    private void heldTo99() {
        term("held to 0 .. 99");
        worth("0", 0);
        worth("0-1", 0);
        worth("0-9999", 0);
        worth("98", 98);
        worth("99", 99);
        worth("100", 99);
        worth("9999", 99);
        worth("200-150", 50);
        worth("50-150+120", 20);
    }

    private void factSign() {
        term(": sign;");
        CommaOrphans x = new CommaOrphans();
        Check.page(x, "az ,.;");
        pays(x, "pay sign;", 0, 25, NONE, 26, 27, 28);
    }

    private void factPlace() {
        term("place: in the row (0 first)");
        CommaOrphans x = owned("a", "");
        Check.page(x, "a a,");
        pays(x, "pay place;", 0, NONE, 2, 3);
        Check.page(x, "a".repeat(60));
        due("the last", x.pays(59), 59);
        Check.law(x, "pay 9 when place=3;pay 0;");
        Check.word(x, "aa");
        Check.word(x, "aa");
        due("in a row of words", x.buy(0, 0), 9);
    }

    private void factLong() {
        term("long: how many letters of its WORD in the row can be PRINTED (0, if it is no letter itself)");
        CommaOrphans x = owned("ab", "c", ",");
        Check.page(x, "zab,c .b;zz");
        pays(x, "pay long;", 2, 2, 2, 0, 1, NONE, 0, 1, 0, 0, 0);
        pays(x, "pay 5+long;", 7, 7, 7, 5, 6, NONE, 5, 6, 5, 5, 5);
        x.set(1, 0, 1);
        pays(x, "pay long;", 1, 1, 1, 0, 1);
        x.set(3, 0, 1);
        pays(x, "pay long;", 0, 0, 0, 0, 1, NONE, 0, 0);
        CommaOrphans y = owned("a", "");
        Check.page(y, "a".repeat(60));
        pays(y, "pay long;", 60);
        due("sixty at the last", y.pays(59), 60);
    }

    private void factUsed() {
        term("used: how often that SIGN is ahead of it in the row");
        CommaOrphans x = owned("a", "");
        Check.page(x, "ab,a b,a");
        pays(x, "pay 5+used;", 5, 5, 5, 6, NONE, 6, 6, 7);
        x.set(1, 0, 1);
        pays(x, "pay used;", 0, 0, 0, 1, NONE, 1, 1, 2);
        Check.page(x, "a".repeat(60));
        due("fifty-nine", x.pays(59), 59);
    }

    private void factVowel() {
        term("vowel: 1, if it is a, e, i, o, u, else 0");
        CommaOrphans x = new CommaOrphans();
        String all = "abcdefghijklmnopqrstuvwxyz,.;";
        Check.page(x, all);
        Check.law(x, "pay 5+vowel;");
        for (int i = 0; i < 29; i++) {
            due("vowel: " + all.charAt(i), x.pays(i), "aeiou".indexOf(all.charAt(i)) >= 0 ? 6 : 5);
        }
    }

    private void factOwner() {
        term("owner: its OWNER (9 without one)");
        CommaOrphans x = house(0, 0, 0, 0, 0, 0, 0, 0);
        Check.own(x, "a", 0);
        Check.own(x, ",", 7);
        Check.page(x, "a,z");
        pays(x, "pay owner;", 0, 7, 9);
        x.set(1, 0, 1);
        x.set(3, 7, 1);
        pays(x, "pay owner;", 0, 7, 9);
        x.own(0, NONE);
        due("no more", x.pays(0), 9);
    }

    private void factDay() {
        term("; day;");
        CommaOrphans x = owned("a", "");
        Check.page(x, "a");
        pays(x, "pay day+3;", 3);
        x.day();
        due("a day later", x.pays(0), 4);
        Check.law(x, "pay 9 when day>1;pay 2;");
        due("day 1", x.pays(0), 2);
        x.day();
        due("day 2", x.pays(0), 9);
    }

    private void factLeft() {
        term("left: the SIGN just ahead of it in the row, if that can be PRINTED, else 29 (a blank, none, too)");
        CommaOrphans x = owned("ab", "c,");
        Check.page(x, "ba c,az;");
        pays(x, "pay left;", 29, 1, NONE, 29, 2, 26, 0, 29);
        x.set(1, 1, 1);
        pays(x, "pay left;", 29, 29, NONE, 29, 2);
        x.set(3, 1, 1);
        pays(x, "pay left;", 29, 29, NONE, 29, 29, 29, 0);
        x.own(0, NONE);
        pays(x, "pay left;", 29, 29, NONE, 29, 29, 29, 29);
    }

    private void factFirst() {
        term("first: 1, if it is the first letter of its WORD, else 0.");
        CommaOrphans x = owned("a", "");
        Check.page(x, "zab,c a;,\nb");
        pays(x, "pay first;", 1, 0, 0, 0, 1, NONE, 1, 0, 0, NONE, 1);
        pays(x, "pay 5+first;", 6, 5, 5, 5, 6, NONE, 6, 5, 5, NONE, 6);
        Check.page(x, ",a");
        pays(x, "pay first;", 0, 1);
    }

    private void wordAsLongAsMayBe() {
        term("A WORD of it is as many letters as stand together, as long as may be.");
        CommaOrphans x = owned("abc", ",", ".");
        Check.page(x, "ab,abc .a\nbc;a");
        pays(x, "pay long;", 2, 2, 0, 3, 3, 3, NONE, 0, 1, NONE, 2, 2, 0, 1);
        Check.page(x, "abcabcabcabcabcabc");
        pays(x, "pay long;", 18);
        due("longer than a word of the list", x.pays(17), 18);
    }

    private void text() {
        promise(8, "The TAPE, empty then, is THE LAW: how many lines.");
        CommaOrphans x = owned("a", "");
        Check.page(x, "a");
        due("an empty tape", x.text(), 0);
        due("two", Check.law(x, "pay 8 when 1<0;pay 7;"), 2);
        due("the tape is empty", x.end(1), false);
        due("is the law", x.pays(0), 7);
        due("sixteen", Check.law(x, "pay 1;".repeat(16)), 16);
        due("the whole law is new", Check.law(x, "pay 6;"), 1);
        due("one line", x.look(7), 1);
        due("pays by it", x.pays(0), 6);
        due("400 bytes", Check.law(x, "pay 1" + "+0".repeat(195) + "+40 ;"), 1);
        due("all of them", x.pays(0), 41);
        due("no lines again", x.text(), 0);
        due("pays 1", x.pays(0), 1);
    }

    private void textRefused() {
        promise(8, "NONE: a FAULT (it stays as it was).");
        CommaOrphans x = owned("a", "");
        Check.page(x, "a");
        Check.law(x, "pay 8 when 1<0;pay 7;");
        for (String wrong : new String[] {"x", "pay 9;x", "pay 9/0;", "pay 9;".repeat(17), "pay 9;pay 9;pay 9"}) {
            due("'" + wrong + "'", Check.law(x, wrong), NONE);
            due("two lines", x.look(7), 2);
            due("pays as before", x.pays(0), 7);
            due("the tape is empty", x.end(1), false);
        }
    }

    private void fault() {
        promise(9, "Of the latest text() what 0 the FAULT (0 without one), 1 its place (NONE).");
        CommaOrphans x = new CommaOrphans();
        due("none yet", x.fault(0), 0);
        due("no place yet", x.fault(1), NONE);
        Check.law(x, "pay 5/0;");
        due("2", x.fault(0), 2);
        due("its place", x.fault(1), 6);
        Check.page(x, "!");
        Check.word(x, "!");
        due("others are no text", x.fault(0), 2);
        Check.law(x, "x");
        due("the latest", x.fault(0), 1);
        due("at 0", x.fault(1), 0);
        Check.law(x, "pay 1;");
        due("without one", x.fault(0), 0);
        due("no place", x.fault(1), NONE);
        Check.law(x, "pay 1;".repeat(17));
        due("3", x.fault(0), 3);
        x.text();
        due("an empty text has none", x.fault(0), 0);
        due("nor a place", x.fault(1), NONE);
    }

    private void faultRefused() {
        promise(9, "NONE for another what.");
        CommaOrphans x = new CommaOrphans();
        for (int turn = 0; turn < 2; turn++) {
            for (int what : new int[] {2, 3, -1, LEAST, MOST}) {
                due("fault(" + what + ")", x.fault(what), NONE);
            }
            Check.law(x, "pay 5/0;");
        }
    }

    private void paysAt() {
        promise(18, "What the SIGN at place i of THE PAGE PAYS");
        CommaOrphans x = owned("a", "b");
        Check.page(x, "ab,a");
        pays(x, "pay 10+place;", 10, 11, 12, 13);
        x.set(1, 0, 1);
        x.set(3, 1, 1);
        due("a burnt one", x.pays(0), 10);
        due("one of a man on strike", x.pays(1), 11);
        due("nobody's", x.pays(2), 12);
        Check.page(x, "a".repeat(60));
        due("the last of sixty", x.pays(59), 69);
    }

    private void paysRefused() {
        promise(18, "NONE if there is none such (a blank).");
        CommaOrphans x = owned("a", "");
        due("an empty page", x.pays(0), NONE);
        Check.page(x, "a \na");
        due("a blank", x.pays(1), NONE);
        due("a line's end", x.pays(2), NONE);
        due("the last", x.pays(3), 1);
        due("behind", x.pays(4), NONE);
        due("ahead", x.pays(-1), NONE);
        due("far off", x.pays(MOST) + x.pays(LEAST), 2 * NONE);
        Check.page(x, "a".repeat(60));
        due("the sixty-first", x.pays(60), NONE);
        Check.page(x, "a");
        due("what an earlier page had", x.pays(1), NONE);
    }
}
