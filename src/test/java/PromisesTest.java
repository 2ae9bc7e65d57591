/** One method for each promise of the document: ordinary inputs, the edges it names, and wrong inputs. */
public final class PromisesTest {
    private static final int NONE = CommaOrphans.NONE;
    private final Check check = new Check("PromisesTest");

    public static void main(String[] args) {
        PromisesTest all = new PromisesTest();
        all.promise1();
        all.promise2();
        all.promise3();
        all.promise4();
        all.promise5();
        all.promise6();
        all.promise7();
        all.promise8();
        all.promise9();
        all.promise10();
        all.promise11();
        all.promise12();
        all.promise13();
        all.promise13Misprints();
        all.promise14();
        all.promise15();
        all.promise16();
        all.promise17();
        all.promise18();
        all.promise19();
        all.promise20();
        all.promise21();
        all.promise22();
        all.promise23();
        all.promise24();
        all.promise25();
        all.promise26();
        all.promise27();
        all.promise28();
        all.check.close();
    }

    private void due(String call, long got, long want) {
        check.due(call, got, want);
    }

    private void due(String call, boolean got, boolean want) {
        check.due(call, got, want);
    }

    private static CommaOrphans house(int... breads) {
        CommaOrphans x = new CommaOrphans();
        for (int bread : breads) {
            x.apprentice(0, bread);
        }
        return x;
    }

    /** Three apprentices: a b, c d, and the stops. */
    private static CommaOrphans three() {
        CommaOrphans x = house(1, 1, 1);
        Check.own(x, "ab", 0);
        Check.own(x, "cd", 1);
        Check.own(x, ",.;", 2);
        return x;
    }

    private void promise1() {
        CommaOrphans x = new CommaOrphans();
        for (int what = 0; what < 10; what++) {
            due("1: look(" + what + ")", x.look(what), 0);
        }
        for (int s = 0; s < 29; s++) {
            due("1: owner", x.sign(s, 0), NONE);
            due("1: burnt", x.sign(s, 1), 0);
            due("1: printed", x.sign(s, 2), 0);
        }
        due("1: nothing to undo", x.undo(), false);
        due("1: no image", x.image(false), false);
        due("1: no fault", x.fault(0), 0);
        due("1: no fault's place", x.fault(1), NONE);
        due("1: NONE", NONE, -1);
        due("1: the tape is empty", x.end(1), false);
    }

    private void promise2() {
        CommaOrphans x = new CommaOrphans();
        due("2: first", x.state(5), 0);
        due("2: then", x.state(Integer.MIN_VALUE), 5);
        due("2: least", x.state(-1), Integer.MIN_VALUE);
        due("2: as it is", x.look(9), -1);
        x.print();
        due("2: a print to undo", x.look(8), 1);
        x.state(-1);
        due("2: forgets what can be undone", x.look(8), 0);
    }

    private void promise3() {
        CommaOrphans x = new CommaOrphans();
        due("3: purse below 0", x.apprentice(-1, 5), NONE);
        due("3: purse above", x.apprentice(100000, 5), NONE);
        due("3: bread below 0", x.apprentice(5, -1), NONE);
        due("3: bread above", x.apprentice(5, 100), NONE);
        due("3: far off", x.apprentice(Integer.MIN_VALUE, Integer.MAX_VALUE), NONE);
        due("3: none yet", x.look(0), 0);
        due("3: most", x.apprentice(99999, 99), 0);
        for (int i = 1; i < 8; i++) {
            due("3: number " + i, x.apprentice(i, i), i);
        }
        x.print();
        due("3: the ninth", x.apprentice(1, 1), NONE);
        due("3: a refusal forgets nothing", x.look(8), 1);
        due("3: purse", x.of(0, 0), 99999);
        due("3: bread", x.of(0, 1), 99);
        due("3: no strike", x.of(7, 2), 0);
        due("3: not hungry", x.of(7, 3), 0);
        due("3: told none", x.of(7, 5), NONE);
        CommaOrphans y = new CommaOrphans();
        y.print();
        y.apprentice(0, 0);
        due("3: forgets what can be undone", y.undo(), false);
    }

    private void promise4() {
        CommaOrphans x = house(1, 1);
        due("4: below", x.own(-1, 0), false);
        due("4: above", x.own(29, 0), false);
        due("4: no such apprentice", x.own(0, 2), false);
        due("4: below NONE", x.own(0, -2), false);
        due("4: far off", x.own(Integer.MAX_VALUE, Integer.MIN_VALUE), false);
        due("4: first", x.own(0, 1), true);
        due("4: last", x.own(28, 0), true);
        due("4: is 1's", x.sign(0, 0), 1);
        due("4: changes hands", x.own(0, 0), true);
        due("4: is 0's", x.sign(0, 0), 0);
        due("4: 0 has two", x.of(0, 4), 2);
        due("4: nobody's", x.own(0, NONE), true);
        due("4: has none", x.sign(0, 0), NONE);
        x.print();
        due("4: refused", x.own(0, 5), false);
        due("4: a refusal forgets nothing", x.look(8), 1);
        x.own(0, 1);
        due("4: forgets what can be undone", x.look(8), 0);
    }

    private void promise5() {
        CommaOrphans x = house(1, 1);
        int[] most = {1000, 1, 99, 1, 99999, 99999};
        for (int what = 0; what < 6; what++) {
            int who = what == 0 ? -77 : 1;
            due("5: most of " + what, x.set(what, who, most[what]), true);
            due("5: above " + what, x.set(what, who, most[what] + 1), false);
            due("5: below " + what, x.set(what, who, what == 5 ? -2 : -1), false);
            due("5: far above " + what, x.set(what, who, Integer.MAX_VALUE), false);
        }
        due("5: jealousy", x.look(6), 1000);
        due("5: burnt", x.sign(1, 1), 1);
        due("5: bread", x.of(1, 1), 99);
        due("5: strike", x.of(1, 2), 1);
        due("5: purse", x.of(1, 0), 99999);
        due("5: told", x.of(1, 5), 99999);
        due("5: the other's stay", x.of(0, 0) + x.of(0, 1) + x.of(0, 2) + x.of(0, 5), 0 + 1 + 0 - 1);
        due("5: told none", x.set(5, 1, NONE), true);
        due("5: none told", x.of(1, 5), NONE);
        due("5: sign 28", x.set(1, 28, 1), true);
        due("5: sign 29", x.set(1, 29, 1), false);
        due("5: sign -1", x.set(1, -1, 1), false);
        for (int what = 2; what < 6; what++) {
            due("5: nobody", x.set(what, 2, 1), false);
            due("5: nobody below", x.set(what, -1, 1), false);
        }
        due("5: another what", x.set(6, 0, 0), false);
        due("5: another what below", x.set(-1, 0, 0), false);
        for (int what = 0; what < 6; what++) {
            x.print();
            due("5: refused", x.set(what, 1, -5), false);
            due("5: a refusal forgets nothing", x.look(8) > 0, true);
            x.set(what, 1, 1);
            due("5: forgets what can be undone, but for told", x.look(8), what == 5 ? 1 : 0);
        }
    }

    private void promise6() {
        CommaOrphans x = house(0);
        due("6: twenty", x.feed(0x61626364, 0x65666768, 0x696a2c2e, 0x3b200a61, 0x7a7a7a7a), 20);
        due("6: page", x.page(), 20);
        int[] row = {0, 1, 2, 3, 4, 5, 6, 7, 8, 9, 26, 27, 28, 29, 29, 0, 25, 25, 25, 25};
        for (int i = 0; i < 20; i++) {
            due("6: byte " + i, x.at(i), row[i]);
        }
        for (int n = 20; n <= 400; n += 20) {
            due("6: behind", x.feed(0x61616161, 0, 0, 0, 0), n);
        }
        due("6: more than 400", x.feed(0, 0, 0, 0, 0), NONE);
        due("6: 381 are too many", x.end(381), true);
        due("6: more than 400 again", x.feed(0, 0, 0, 0, 0), NONE);
        due("6: nothing came", x.end(382), false);
        due("6: 380", x.end(380), true);
        due("6: 400", x.feed(0, 0, 0, 0, 0), 400);
        due("6: high bytes", x.page(), NONE - 4);
        x.feed(0xff808081, 0, 0, 0, 0);
        due("6: bytes without sign", x.page(), NONE);
        x.print();
        x.feed(0, 0, 0, 0, 0);
        x.end(0);
        due("6: forgets nothing", x.look(8), 1);
    }

    private void promise7() {
        CommaOrphans x = new CommaOrphans();
        due("7: none of none", x.end(0), true);
        due("7: one of none", x.end(1), false);
        x.feed(0x61616161, 0x61616161, 0x61616161, 0x61616161, 0x61616161);
        due("7: below 0", x.end(-1), false);
        due("7: least", x.end(Integer.MIN_VALUE), false);
        due("7: 21", x.end(21), false);
        due("7: 20", x.end(20), true);
        due("7: 3", x.end(3), true);
        due("7: 4", x.end(4), false);
        due("7: comes behind", x.feed(0x62626262, 0, 0, 0, 0), 23);
        x.end(4);
        due("7: page", x.page(), 4);
        due("7: the third", x.at(2), 0);
        due("7: the fourth", x.at(3), 1);
    }

    private void promise8() {
        CommaOrphans x = three();
        Check.page(x, "abc, da");
        due("8: empty", x.text(), 0);
        due("8: blanks alone", Check.law(x, " \n "), 0);
        due("8: pays 1 then", x.pays(0), 1);
        due("8: one line", Check.law(x, "pay 7;"), 1);
        due("8: pays 7", x.pays(0), 7);
        due("8: without blanks", Check.law(x, "pay8when sign=0;pay 9when(sign=1)and not sign=0;"), 2);
        due("8: first line", x.pays(0), 8);
        due("8: second line", x.pays(1), 9);
        due("8: no line", x.pays(2), 1);
        due("8: a fault", Check.law(x, "pay ;"), NONE);
        due("8: the law stays", x.pays(0), 8);
        due("8: the lines stay", x.look(7), 2);
        due("8: the tape is empty", x.end(1), false);
        due("8: sixteen", Check.law(x, "pay 1;".repeat(16)), 16);
        due("8: seventeen", Check.law(x, "pay 1;".repeat(17)), NONE);
        due("8: sixteen unlike", Check.law(x, "pay 2 when 1<0;".repeat(14) + "pay 3 when 0<sign;pay 4;"), 16);
        due("8: the sixteenth", x.pays(0), 4);
        due("8: the fifteenth", x.pays(1), 3);
        due("8: 400 bytes", Check.law(x, "pay 1" + "+0".repeat(195) + "+40 ;"), 1);
        due("8: all of them", x.pays(0), 41);
        due("8: many or", Check.law(x, "pay 9 when 1<0" + "or 1<0".repeat(60) + "or 0<1;pay 2;"), 2);
        due("8: the last of them", x.pays(0), 9);
        due("8: many and", Check.law(x, "pay 9 when 0<1" + "and 0<1".repeat(50) + "and 1<0;pay 2;"), 2);
        due("8: the last of those", x.pays(0), 2);
        x.print();
        Check.law(x, "pay 2;");
        due("8: forgets nothing", x.look(8), 1);
    }

    private void fault(String text, int fault, int place) {
        CommaOrphans x = new CommaOrphans();
        Check.law(x, "pay 3;pay 4;");
        due("9: " + text, Check.law(x, text), NONE);
        due("9: fault of " + text, x.fault(0), fault);
        due("9: place of " + text, x.fault(1), place);
        due("9: the law stays", x.look(7), 2);
    }

    private void promise9() {
        fault("x", 1, 0);
        fault(" pai 1;", 1, 1);
        fault("payx 1;", 1, 0);
        fault("payPay 1;", 1, 0);
        fault("payA", 1, 0);
        fault("Apay 1;", 1, 0);
        fault("PAY 1;", 1, 0);
        fault("pAy 1;", 1, 0);
        fault("pay 1 whenZ 1<2;", 1, 6);
        fault("pay signA;", 1, 4);
        fault("pay Zsign;", 1, 4);
        fault("pay 1A;", 1, 5);
        fault("pay A1;", 1, 4);
        fault("pay 1 when notZ;", 1, 11);
        fault("pay 5/0A;", 2, 6);
        fault("pay@", 1, 3);
        fault("pay[", 1, 3);
        fault("pay`", 1, 3);
        fault("pay{", 1, 3);
        fault("pay_1;", 1, 3);
        fault("pay" + (char) 193, 1, 3);
        fault("pay 1;".repeat(16) + "payA", 1, 96);
        fault("pay", 1, 3);
        fault("pay  \n", 1, 6);
        fault("pay 1", 1, 5);
        fault("pay 1  ", 1, 7);
        fault("pay 12345;", 1, 4);
        fault("pay 00000;", 1, 4);
        fault("pay -1;", 1, 4);
        fault("pay (1);", 1, 4);
        fault("pay 1 2;", 1, 6);
        fault("pay 1 when;", 1, 10);
        fault("pay 1 when 1;", 1, 12);
        fault("pay 1 when (1)<2;", 1, 13);
        fault("pay 1 when 1<2<3;", 1, 14);
        fault("pay 1 when (1<2;", 1, 15);
        fault("pay 1 when 1<2);", 1, 14);
        fault("pay 1 when not;", 1, 14);
        fault("pay 1 when 1<2 or;", 1, 17);
        fault("pay 1 when 1<2 and or 1<2;", 1, 19);
        fault("pay 1;;", 1, 6);
        fault("pay 1;9", 1, 6);
        fault("pay 1,", 1, 5);
        fault("pay 1\t;", 1, 5);
        fault("pay 5/sign;", 1, 6);
        fault("pay 5/12345;", 1, 6);
        fault("pay 5/;", 1, 6);
        fault("pay 5/0;", 2, 6);
        fault("pay 5/ 0000;", 2, 7);
        fault("pay 5/2/00*x;", 2, 8);
        fault("pay 5/0 when x;", 2, 6);
        fault("pay x/0;", 1, 4);
        fault("pay 1 when 1<2 and 5/0>1;", 2, 21);
        fault("pay 1 when 1<2 or 5/0>1;", 2, 20);
        fault("pay 1 when 1<5/0;", 2, 15);
        fault("pay 1 when not 5/0>1;", 2, 17);
        fault("pay 1 when (5/0>1);", 2, 14);
        fault("pay 1+5/0;", 2, 8);
        fault("pay 1*5/0;", 2, 8);
        fault(";".repeat(400), 1, 0);
        fault("pay 1" + "+1".repeat(197) + "*", 1, 400);
        fault("pay 1;".repeat(16) + " pay x;", 3, 97);
        fault("pay 1;".repeat(16) + " x", 1, 97);
        fault("pay 1 when (((((((((1<2)))))))));", 3, 19);
        fault("pay 1 when not not not not not not not not not 1<2;", 3, 43);
        fault("pay 1 when not(not(not(not( 1<2;", 1, 31);
        fault("pay 1 when not(not(not(not( (", 3, 28);
        CommaOrphans x = new CommaOrphans();
        due("9: eight are open", Check.law(x, "pay 1 when ((((((((1<2))))))))and((((((((1<2))))))));"), 1);
        due("9: eight not", Check.law(x, "pay 1 when not not not not(not not not 1<2)or not 1=1;"), 1);
        due("9: no fault then", x.fault(0), 0);
        due("9: no place then", x.fault(1), NONE);
        Check.law(x, "pay 5/0;");
        due("9: other what", x.fault(2), NONE);
        due("9: other what below", x.fault(-1), NONE);
        x.image(true);
        due("9: stays", x.fault(0), 2);
        x.text();
        due("9: of the latest", x.fault(0), 0);
    }

    private void promise10() {
        CommaOrphans x = new CommaOrphans();
        due("10: empty", x.page(), 0);
        due("10: all kinds", Check.page(x, "az,.; \nq"), 8);
        int[] row = {0, 25, 26, 27, 28, 29, 29, 16};
        for (int i = 0; i < row.length; i++) {
            due("10: place " + i, x.at(i), row[i]);
        }
        due("10: a capital", Check.page(x, "abcD"), NONE - 3);
        due("10: a digit first", Check.page(x, "1"), NONE);
        due("10: the page stays", x.at(7), 16);
        due("10: the tape is empty", x.end(1), false);
        due("10: sixty", Check.page(x, "ab".repeat(30)), 60);
        due("10: sixty-one", Check.page(x, "ab".repeat(30) + " "), NONE - 60);
        due("10: many", Check.page(x, "ab".repeat(200)), NONE - 60);
        due("10: the first of two", Check.page(x, "a!".repeat(50)), NONE - 1);
        due("10: still sixty", x.look(1), 60);
        x.print();
        Check.page(x, "b");
        due("10: forgets nothing", x.look(8), 1);
        due("10: shorter then", x.look(1), 1);
        due("10: none behind", x.at(1), NONE);
    }

    private void promise11() {
        CommaOrphans x = new CommaOrphans();
        due("11: empty", x.word(), NONE);
        due("11: twelve", Check.word(x, "abcdefghijkl"), 0);
        due("11: thirteen", Check.word(x, "abcdefghijklm"), NONE);
        due("11: a blank", Check.word(x, "a b"), NONE);
        due("11: a comma", Check.word(x, "ab,"), NONE);
        due("11: a capital", Check.word(x, "A"), NONE);
        due("11: beside the letters", Check.word(x, "`") + Check.word(x, "{"), 2 * NONE);
        due("11: the tape is empty", x.end(1), false);
        x.print();
        for (int i = 1; i < 20; i++) {
            due("11: one more", Check.word(x, "z"), i);
        }
        due("11: the twenty-first", Check.word(x, "a"), NONE);
        due("11: its tape is empty", x.end(1), false);
        due("11: twenty", x.look(2), 20);
        due("11: forgets nothing", x.look(8), 1);
    }

    private void promise12() {
        CommaOrphans x = three();
        due("12: none", x.clear(), 0);
        Check.word(x, "ab");
        Check.word(x, "c");
        due("12: can", x.can(), 3);
        x.print();
        due("12: two", x.clear(), 2);
        due("12: forgets nothing", x.look(8), 1);
        due("12: empty", x.look(2), 0);
        due("12: nothing to buy", x.buy(0, 0), NONE);
        due("12: can none", x.can(), 0);
        due("12: from the first again", Check.word(x, "zz"), 0);
    }

    private void promise13() {
        CommaOrphans x = three();
        Check.page(x, "abc xa,");
        due("13: x is nobody's", x.print(), 5);
        due("13: a gap", x.look(4), 1);
        due("13: purse of 0", x.of(0, 0), 3);
        due("13: purse of 1", x.of(1, 0), 1);
        due("13: purse of 2", x.of(2, 0), 1);
        due("13: a twice", x.sign(0, 2), 2);
        due("13: x never", x.sign(23, 2), 0);
        x.set(1, 0, 1);
        x.set(3, 1, 1);
        due("13: burnt, strike, nobody's", x.print(), 2);
        due("13: gaps in all", x.look(4), 5);
        due("13: no draw without jealousy", x.look(9), 0);
        x.set(1, 0, 0);
        x.set(4, 0, 99995);
        Check.law(x, "pay place*9-3;");
        due("13: prints", x.print(), 4);
        due("13: most in a purse", x.of(0, 0), 99999);
        due("13: held to 0 first", x.roll(x.look(3) - 4, 4), 0);
        due("13: what came", x.roll(x.look(3) - 3, 4), 4);
        due("13: nothing more came", x.roll(x.look(3) - 2, 4), 0);
        due("13: stop's pay", x.roll(x.look(3) - 1, 4), 51);
        due("13: can be undone", x.look(8), 1);
    }

    /** With jealousy 1000 each draw misprints; the first is as it is, for none was printed ahead of it. */
    private void promise13Misprints() {
        CommaOrphans x = three();
        x.set(0, 0, 1000);
        Check.page(x, "zdba ,z");
        Check.law(x, "pay 1+used when sign=2;");
        due("13: z is a gap, then d, then c for all", x.print(), 5);
        due("13: a gap", x.look(4), 1);
        due("13: d", x.sign(3, 2), 1);
        due("13: c", x.sign(2, 2), 4);
        due("13: the page stays", x.at(2), 1);
        due("13: c is not used ahead of it, the page is as it is set", x.of(1, 0), 5);
        due("13: place", x.roll(4, 2), 6);
        int state = 0;
        for (int i = 0; i < 6; i++) {
            state = state * 1664525 + 1013904223;
        }
        due("13: a draw for each sign, none for a blank", x.look(9), state);
        CommaOrphans y = three();
        y.set(0, 0, 1000);
        y.set(1, 0, 1);
        Check.page(y, "bbcc");
        due("13: the least one burnt", y.print(), 1);
        due("13: gaps then", y.look(4), 3);
        CommaOrphans z = house(0, 0);
        Check.own(z, "bz", 0);
        Check.own(z, ",", 1);
        z.set(0, 0, 1000);
        Check.page(z, "z,bb");
        Check.law(z, "pay long*10+first when sign=1;pay 50;");
        due("13: all", z.print(), 4);
        due("13: b at the comma's place joins the words", z.roll(1, 4), 40);
        due("13: then long is 2 again", z.roll(3, 4), 20);
        CommaOrphans w = three();
        Check.page(w, "ac".repeat(30));
        w.state(12345);
        w.set(0, 0, 300);
        w.print();
        int s = 12345;
        int last = -1;
        for (int i = 0; i < 60; i++) {
            s = s * 1664525 + 1013904223;
            int sign = i % 2 * 2;
            if ((s >>> 8) % 1000 < 300 && last >= 0) {
                sign = last / 2 * 2;
            }
            due("13: sign that counts at " + i, w.roll(i, 0), sign);
            last = sign;
        }
    }

    private void promise14() {
        CommaOrphans x = new CommaOrphans();
        due("14: nobody", x.day(), 0);
        x.apprentice(5, 5);
        x.apprentice(5, 6);
        x.apprentice(0, 0);
        x.set(3, 1, 1);
        due("14: one is hungry", x.day(), 1);
        due("14: ate", x.of(0, 0), 0);
        due("14: did not", x.of(1, 0), 5);
        due("14: hungry a day", x.of(1, 3), 1);
        due("14: two are hungry", x.day(), 2);
        due("14: two days", x.of(1, 3), 2);
        due("14: one day", x.of(0, 3), 1);
        due("14: never", x.of(2, 3), 0);
        due("14: day", x.look(5), 3);
        x.print();
        x.day();
        due("14: forgets what can be undone", x.undo(), false);
        CommaOrphans y = three();
        Check.page(y, "a");
        Check.law(y, "pay day*10+1;");
        due("14: day 0", y.pays(0), 1);
        y.day();
        due("14: day 1", y.pays(0), 11);
        y.print();
        due("14: in the roll", y.roll(0, 1), 1);
        for (int i = 0; i < 9998; i++) {
            y.day();
        }
        due("14: the last day", y.look(5), 9999);
        y.print();
        due("14: no more", y.day(), NONE);
        due("14: nothing is done", y.look(8), 1);
        due("14: still the last day", y.look(5), 9999);
    }

    private void promise15() {
        CommaOrphans x = three();
        Check.page(x, "aab,c z");
        x.set(4, 1, 77);
        x.set(5, 1, 0);
        due("15: purse", x.of(1, 0), 77);
        due("15: bread", x.of(1, 1), 1);
        due("15: strike", x.of(1, 2), 0);
        due("15: hungry", x.of(1, 3), 0);
        due("15: owns", x.of(2, 4), 3);
        due("15: told", x.of(1, 5), 0);
        due("15: earns", x.of(0, 6), 3);
        x.set(4, 0, 99999);
        due("15: earns though the purse is full", x.of(0, 6), 3);
        x.set(1, 0, 1);
        due("15: owns what burnt", x.of(0, 4), 2);
        due("15: earns nothing by it", x.of(0, 6), 1);
        x.set(3, 0, 1);
        due("15: strike", x.of(0, 2), 1);
        due("15: earns nothing on strike", x.of(0, 6), 0);
        x.set(0, 0, 1000);
        due("15: no misprints in thought", x.of(1, 6), 1);
        due("15: no draw in thought", x.look(9), 0);
        due("15: another what", x.of(0, 7), NONE - 1);
        due("15: another what below", x.of(0, -1), NONE - 1);
        due("15: nobody", x.of(3, 0), NONE - 1);
        due("15: nobody below", x.of(-1, 0), NONE - 1);
        due("15: far off", x.of(Integer.MIN_VALUE, Integer.MAX_VALUE), NONE - 1);
    }

    private void promise16() {
        CommaOrphans x = three();
        x.set(1, 28, 1);
        Check.page(x, "dd;");
        x.print();
        due("16: owner", x.sign(28, 0), 2);
        due("16: none", x.sign(25, 0), NONE);
        due("16: burnt", x.sign(28, 1), 1);
        due("16: not burnt", x.sign(0, 1), 0);
        due("16: printed", x.sign(3, 2), 2);
        due("16: a gap is not printed", x.sign(28, 2), 0);
        due("16: other what", x.sign(0, 3), NONE - 1);
        due("16: other what below", x.sign(0, -1), NONE - 1);
        due("16: other sign", x.sign(29, 0), NONE - 1);
        due("16: other sign below", x.sign(-1, 0), NONE - 1);
        Check.page(x, "d".repeat(60));
        for (int i = 0; i < 5; i++) {
            x.print();
        }
        due("16: also beyond the roll", x.sign(3, 2), 302);
        due("16: the roll has 200", x.look(3), 200);
    }

    private void promise17() {
        CommaOrphans x = new CommaOrphans();
        due("17: none", x.at(0), NONE);
        Check.page(x, "z;\na");
        due("17: letter", x.at(0), 25);
        due("17: stop", x.at(1), 28);
        due("17: blank", x.at(2), 29);
        due("17: last", x.at(3), 0);
        due("17: behind", x.at(4), NONE);
        due("17: ahead", x.at(-1), NONE);
        due("17: far off", x.at(Integer.MAX_VALUE), NONE);
    }

    private void pays(CommaOrphans x, String law, int... want) {
        due("18: " + law, Check.law(x, law) > 0, true);
        for (int i = 0; i < want.length; i++) {
            due("18: " + law + " at " + i, x.pays(i), want[i]);
        }
    }

    private void promise18() {
        CommaOrphans x = three();
        Check.page(x, "zab,a c;;");
        pays(x, "pay sign;", 25, 0, 1, 26, 0, NONE, 2, 28, 28, NONE);
        pays(x, "pay place;", 0, 1, 2, 3, 4, NONE, 6, 7, 8);
        pays(x, "pay long;", 2, 2, 2, 0, 1, NONE, 1, 0, 0);
        pays(x, "pay used;", 0, 0, 0, 0, 1, NONE, 0, 0, 1);
        pays(x, "pay vowel;", 0, 1, 0, 0, 1, NONE, 0, 0, 0);
        pays(x, "pay owner;", 9, 0, 0, 2, 0, NONE, 1, 2, 2);
        pays(x, "pay left;", 29, 29, 0, 1, 26, NONE, 29, 2, 28);
        pays(x, "pay first;", 1, 0, 0, 0, 1, NONE, 1, 0, 0);
        pays(x, "pay day+5;", 5, 5, 5);
        pays(x, "pay 2+3*4-20/3/2;", 11);
        pays(x, "pay 7-9;", 0);
        pays(x, "pay 99;", 99);
        pays(x, "pay 100;", 99);
        pays(x, "pay 0*7-20/3*2+20;", 8);
        pays(x, "pay 9999*9999*21;", 99);
        pays(x, "pay 9999*9999*22;", 0);
        pays(x, "pay 4096*4096*256+7;", 7);
        pays(x, "pay 1 when sign<1;pay 2 when sign=1;pay 3 when sign>25;", 1, 1, 2, 3, 1, NONE, 1, 3, 3);
        pays(x, "pay 5 when sign=0 or sign=1 and place=2 or not(sign<27)and not place=7;pay 4;",
            4, 5, 5, 4, 5, NONE, 4, 4, 5);
        pays(x, "pay 5 when not sign=0 and place<2;pay 4;", 5, 4, 4);
        pays(x, "pay 5 when not(sign=0 and place<2);pay 4;", 5, 4, 5);
        pays(x, "pay 5 when 0-7<0-6;pay 4;", 5);
        x.set(3, 0, 1);
        pays(x, "pay long*10+left/9;", 3, 3, 3, 3, 2, NONE, 13, 0, 3);
        x.set(1, 28, 1);
        pays(x, "pay left;", 29, 29, 29, 29, 26, NONE, 29, 2, 29);
        due("18: ahead", x.pays(-1), NONE);
        due("18: far off", x.pays(Integer.MAX_VALUE), NONE);
        CommaOrphans vowels = new CommaOrphans();
        Check.page(vowels, "abcdefghijklmnopqrstuvwxyz,.;");
        Check.law(vowels, "pay vowel;");
        for (int i = 0; i < 29; i++) {
            due("18: vowel " + i, vowels.pays(i), i == 0 || i == 4 || i == 8 || i == 14 || i == 20 ? 1 : 0);
        }
    }

    private void promise19() {
        CommaOrphans x = three();
        due("19: none", x.roll(0, 0), NONE);
        x.day();
        x.day();
        Check.page(x, "z d,");
        Check.law(x, "pay place*2;");
        x.print();
        int[][] want = {{3, 2, 2, 1, 4}, {26, 2, 3, 2, 6}};
        for (int i = 0; i < 2; i++) {
            for (int what = 0; what < 5; what++) {
                due("19: line " + i + ", " + what, x.roll(i, what), want[i][what]);
            }
            due("19: other what", x.roll(i, 5), NONE);
            due("19: other what below", x.roll(i, -1), NONE);
        }
        due("19: behind", x.roll(2, 0), NONE);
        due("19: ahead", x.roll(-1, 0), NONE);
        due("19: far off", x.roll(Integer.MAX_VALUE, 4), NONE);
        Check.page(x, "abcd".repeat(15));
        for (int i = 0; i < 4; i++) {
            x.print();
        }
        due("19: 200 lines", x.look(3), 200);
        due("19: the last", x.roll(199, 2), (200 - 2 - 1) % 60);
        due("19: no more", x.roll(200, 0), NONE);
        x.undo();
        due("19: the fourth had 18 lines there", x.look(3), 182);
        due("19: gone", x.roll(182, 0), NONE);
    }

    private void fewest(String call, CommaOrphans x, int... want) {
        for (int what = 0; what < 5; what++) {
            due("20: " + call + ", " + what, x.fewest(what), want[what]);
        }
        due("20: other what", x.fewest(5), NONE);
        due("20: other what below", x.fewest(-1), NONE);
    }

    private void promise20() {
        CommaOrphans x = three();
        fewest("an empty page feeds nobody", x, NONE, NONE, NONE, NONE, NONE);
        Check.page(x, "acz,");
        fewest("all eat", x, 0, NONE, NONE, NONE, NONE);
        x.set(2, 0, 2);
        fewest("the first place that does", x, 1, 2, 0, NONE, NONE);
        x.set(2, 1, 2);
        fewest("no two places do", x, NONE, NONE, NONE, NONE, NONE);
        x.set(2, 2, 0);
        fewest("first place, then sign", x, 2, 2, 0, 3, 2);
        x.set(1, 2, 1);
        fewest("c burnt: 1 has d alone", x, NONE, NONE, NONE, NONE, NONE);
        x.set(1, 3, 1);
        fewest("all of 1 burnt: he need not eat", x, 1, 1, 0, NONE, NONE);
        x.set(1, 2, 0);
        x.set(1, 3, 0);
        x.set(3, 1, 1);
        fewest("1 on strike need not eat", x, 1, 1, 0, NONE, NONE);
        Check.page(x, "acz,         ");
        fewest("longer than 12", x, NONE, NONE, NONE, NONE, NONE);
        Check.page(x, "acz,        ");
        fewest("12 long, blanks stay", x, 1, 1, 0, NONE, NONE);
        Check.page(x, "    ");
        fewest("blanks alone", x, NONE, NONE, NONE, NONE, NONE);
        CommaOrphans y = house(3, 0);
        Check.own(y, "a", 0);
        Check.own(y, "b", 1);
        Check.page(y, "a,b");
        Check.law(y, "pay 3 when left=1 or long=3 and place=0;pay 0;");
        fewest("the word is three long then", y, 1, 1, 0, NONE, NONE);
        y.set(0, 0, 1000);
        due("20: no misprints, no draw", y.look(9), 0);
        due("20: nothing stays", y.at(1), 26);
        CommaOrphans z = house(5);
        Check.own(z, "ac", 0);
        Check.page(z, "aac");
        Check.law(z, "pay 5 when sign=0 and used=0 and first=1 and place=2;pay 0;");
        fewest("the last word must begin with an a that is the first: no letter at 0, 1", z,
            NONE, NONE, NONE, NONE, NONE);
        Check.law(z, "pay 5 when sign=2 and first=1 and place=2;pay 0;");
        fewest("an unprinted stop parts the word", z, 1, 1, 26, NONE, NONE);
        Check.law(z, "pay 5 when long=1 and place=2;pay 0;");
        fewest("an unprinted stop again", z, 1, 1, 26, NONE, NONE);
        Check.law(z, "pay 5 when long=1 and place=2 and not first=1;pay 0;");
        fewest("two unprinted letters", z, 2, 0, 1, 1, 1);
        Check.page(z, "cca");
        fewest("two unprinted letters behind one that is printed", z, 2, 0, 1, 1, 1);
        Check.page(z, "baz");
        Check.law(z, "pay 5 when left=29 and sign=0 and place=2;pay 0;");
        fewest("two places", z, 2, 1, 1, 2, 0);
    }

    private void buy(CommaOrphans x, int a, int... want) {
        for (int what = 0; what < 4; what++) {
            due("21: buy(" + a + ", " + what + ")", x.buy(a, what), want[what]);
        }
        due("21: other what", x.buy(a, 4), NONE);
        due("21: other what below", x.buy(a, -1), NONE);
    }

    private void promise21() {
        CommaOrphans x = three();
        due("21: an empty list", x.buy(0, 0), NONE);
        Check.word(x, "zzz");
        buy(x, 0, 0, 0, NONE, NONE);
        Check.word(x, "ab");
        Check.word(x, "cac");
        Check.word(x, "d");
        buy(x, 0, 3, 1, 2, NONE);
        buy(x, 1, 3, 2, 3, NONE);
        buy(x, 2, 0, 0, NONE, NONE);
        Check.word(x, "aba");
        buy(x, 0, 6, 1, 2, 4);
        buy(x, 1, 3, 2, 3, NONE);
        Check.law(x, "pay 9 when sign=0 and used=0;pay 0;");
        buy(x, 0, 9, 1, NONE, NONE);
        Check.law(x, "pay place;");
        buy(x, 0, 4 + 5 + 7 + 8 + 9, 0, 1, 4);
        Check.law(x, "pay 3 when sign=0 and place=5;pay 0;");
        buy(x, 0, 3, 0, 2, NONE);
        Check.law(x, "pay 1 when left=29;pay 0;");
        buy(x, 0, 2, 1, 4, NONE);
        x.set(3, 0, 1);
        buy(x, 0, 0, 0, NONE, NONE);
        due("21: nobody", x.buy(3, 0), NONE);
        due("21: nobody below", x.buy(-1, 0), NONE);
        CommaOrphans y = house(0);
        Check.own(y, "abcdefghijkl", 0);
        for (int i = 0; i < 20; i++) {
            Check.word(y, "abcdefghijkl");
        }
        buy(y, 0, 36, 0, 1, 2);
        Check.law(y, "pay long when place>37 or place=37;pay 0;");
        buy(y, 0, 12, 0, 1, 2);
    }

    private void promise22() {
        CommaOrphans x = three();
        due("22: none", x.can(), 0);
        for (String word : new String[] {"abcd", "abz", "z", "c", "dab"}) {
            Check.word(x, word);
        }
        due("22: 0, 3, 4", x.can(), 1 + 8 + 16);
        x.set(3, 0, 1);
        due("22: strike", x.can(), 8);
        x.set(3, 0, 0);
        x.set(1, 3, 1);
        due("22: burnt", x.can(), 8);
        x.own(25, 2);
        due("22: owned", x.can(), 2 + 4 + 8);
        for (int i = 5; i < 20; i++) {
            Check.word(x, "c");
        }
        due("22: twenty", x.can(), 2 + 4 + 8 + (1 << 20) - (1 << 5));
    }

    private void promise23() {
        CommaOrphans x = three();
        Check.page(x, "abc,cz d");
        due("23: others earn the same", x.hurts(1, 0), 0);
        due("23: three more can't be printed", x.hurts(1, 1), 3);
        Check.law(x, "pay long*2;");
        due("23: a and b earn less", x.hurts(1, 0), 4);
        due("23: c earns less", x.hurts(0, 0), 4);
        due("23: stops", x.hurts(2, 0), 0);
        due("23: one stop", x.hurts(2, 1), 1);
        Check.law(x, "pay left;");
        due("23: may be below 0", x.hurts(0, 0), 1 - 29);
        x.set(1, 2, 1);
        due("23: burnt ones are no more", x.hurts(1, 1), 1);
        x.set(3, 0, 1);
        due("23: on strike", x.hurts(0, 0), 0);
        due("23: on strike, signs", x.hurts(0, 1), 0);
        due("23: nothing stays", x.of(1, 2), 0);
        due("23: nobody", x.hurts(3, 0), NONE - 99999);
        due("23: nobody below", x.hurts(-1, 1), NONE - 99999);
        due("23: other what", x.hurts(1, 2), NONE - 99999);
        due("23: other what below", x.hurts(1, -1), NONE - 99999);
        due("23: other what on strike", x.hurts(0, 2), NONE - 99999);
    }

    private void swap(CommaOrphans x, int count, int a, int b) {
        due("24: how many", x.swap(0), count);
        due("24: the one", x.swap(1), a);
        due("24: the other", x.swap(2), b);
        due("24: other what", x.swap(3), NONE);
        due("24: other what below", x.swap(-1), NONE);
    }

    private void promise24() {
        CommaOrphans x = three();
        swap(x, 0, NONE, NONE);
        Check.page(x, "abcdz");
        swap(x, 0, NONE, NONE);
        Check.law(x, "pay 9 when sign=1 and owner=1;pay 9 when sign=3 and owner=0;pay 1;");
        swap(x, 1, 1, 3);
        Check.law(x, "pay 9 when sign<2 and owner=1;pay 9 when sign>1 and owner=0;pay 1;");
        swap(x, 4, 0, 2);
        x.set(3, 1, 1);
        swap(x, 0, NONE, NONE);
        x.set(3, 1, 0);
        x.set(1, 2, 1);
        swap(x, 2, 0, 3);
        Check.law(x, "pay 9 when owner=2;pay 5 when sign=0 and owner=1;pay 1;");
        swap(x, 0, NONE, NONE);
        due("24: nothing stays", x.sign(0, 0), 0);
        CommaOrphans y = house(0, 0);
        Check.own(y, "a", 0);
        Check.own(y, "b", 1);
        Check.page(y, "ab");
        Check.law(y, "pay 2 when owner=1 and sign=0;pay 1;");
        swap(y, 0, NONE, NONE);
        Check.law(y, "pay 2 when owner=1 and sign=0;pay 2 when owner=0 and sign=1;pay 1;");
        swap(y, 1, 0, 1);
    }

    private void promise25() {
        CommaOrphans x = three();
        Check.page(x, "abcz,");
        x.print();
        due("25: none told", x.liars(), 0);
        x.set(5, 0, 2);
        x.set(5, 1, 1);
        x.set(5, 2, 1);
        due("25: all true", x.liars(), 0);
        x.set(5, 0, 3);
        x.set(5, 2, 0);
        due("25: two false", x.liars(), 1 + 4);
        x.own(26, 0);
        due("25: of the signs they own now", x.liars(), 0);
        x.set(5, 1, NONE);
        x.own(2, NONE);
        due("25: none told, none false", x.liars(), 0);
        x.set(5, 1, 0);
        due("25: nought told", x.liars(), 0);
        x.print();
        due("25: after more", x.liars(), 1);
        x.undo();
        due("25: undone", x.liars(), 0);
        Check.page(x, "d".repeat(60));
        for (int i = 0; i < 5; i++) {
            x.print();
        }
        x.set(5, 1, 300);
        due("25: also beyond the roll", x.liars(), 0);
    }

    private void promise26() {
        CommaOrphans x = three();
        Check.page(x, "abz");
        x.set(0, 0, 500);
        x.state(9);
        int[] states = new int[9];
        for (int i = 0; i < 9; i++) {
            states[i] = x.look(9);
            x.print();
        }
        due("26: six are kept", x.look(8), 6);
        int purse = x.of(0, 0);
        for (int i = 8; i >= 3; i--) {
            int before = x.look(3) + x.look(4);
            due("26: undo", x.undo(), true);
            due("26: state", x.look(9), states[i]);
            due("26: roll and gaps", x.look(3) + x.look(4), before - 3);
            due("26: printed", x.sign(0, 2) + x.sign(1, 2), x.look(3));
            due("26: purse", x.of(0, 0), x.look(3));
            due("26: less", x.of(0, 0) < purse, true);
            purse = x.of(0, 0);
            due("26: left to undo", x.look(8), i - 3);
        }
        due("26: nothing more", x.undo(), false);
        x.print();
        Check.law(x, "pay 3;");
        Check.page(x, "ab");
        Check.word(x, "ab");
        x.clear();
        x.set(5, 0, 3);
        x.image(true);
        x.of(0, 6);
        x.fewest(0);
        due("26: these forget nothing", x.look(8), 1);
        due("26: goes back", x.undo(), true);
        due("26: the page stays", x.look(1), 2);
        due("26: the law stays", x.look(7), 1);
        due("26: told stays", x.of(0, 5), 3);
        due("26: purse goes back", x.of(0, 0), purse);
    }

    private void promise27() {
        CommaOrphans x = three();
        due("27: none", x.image(false), false);
        Check.page(x, "abz,");
        Check.law(x, "pay 3;");
        Check.word(x, "abc");
        x.set(5, 0, 4);
        x.set(0, 0, 7);
        x.state(77);
        x.set(1, 4, 1);
        x.day();
        x.print();
        x.print();
        due("27: taken", x.image(true), true);
        due("27: forgets nothing", x.look(8), 2);
        int purse = x.of(0, 0);
        int hungry = x.of(0, 3);
        int state = x.look(9);
        int lines = x.look(3);
        int gaps = x.look(4);
        for (int turn = 0; turn < 2; turn++) {
            x.apprentice(5, 5);
            x.own(0, 2);
            Check.page(x, "q");
            Check.law(x, "");
            Check.word(x, "z");
            x.set(5, 0, 9);
            x.set(2, 0, 9);
            x.set(3, 0, 1);
            x.set(4, 0, 0);
            x.set(0, 0, 0);
            x.set(1, 4, 0);
            x.state(5);
            x.day();
            x.print();
            Check.law(x, "pay 8;");
            Check.page(x, "abz,");
            due("27: pays by another law", x.pays(0), 8);
            x.set(3, 0, 0);
            due("27: buys another", x.buy(0, 0), 8);
            due("27: two must be set otherwise", x.fewest(0), 2);
            Check.law(x, "pay 1/0;");
            x.feed(0x61610000, 0, 0, 0, 0);
            x.end(2);
            due("27: gone back", x.image(false), true);
            due("27: one must be set otherwise again", x.fewest(0), 1);
            due("27: its sign", x.fewest(2), 2);
            due("27: nothing to undo", x.look(8), 0);
            due("27: fault stays", x.fault(0), 2);
            due("27: the tape stays", x.end(2), true);
            due("27: no more on it", x.end(3), false);
            x.end(0);
            due("27: apprentices", x.look(0), 3);
            due("27: page", x.look(1), 4);
            due("27: sign on it", x.at(1), 1);
            due("27: words", x.look(2), 1);
            due("27: lines of the roll", x.look(3), lines);
            due("27: roll", x.roll(0, 4), 3);
            due("27: gaps", x.look(4), gaps);
            due("27: day", x.look(5), 1);
            due("27: jealousy", x.look(6), 7);
            due("27: law", x.look(7), 1);
            due("27: pays", x.pays(0), 3);
            due("27: state", x.look(9), state);
            due("27: purse", x.of(0, 0), purse);
            due("27: bread", x.of(0, 1), 1);
            due("27: strike", x.of(0, 2), 0);
            due("27: hungry", x.of(0, 3), hungry);
            due("27: told", x.of(0, 5), 4);
            due("27: owner", x.sign(0, 0), 0);
            due("27: burnt", x.sign(4, 1), 1);
            due("27: printed", x.sign(0, 2) + x.sign(1, 2) + x.sign(26, 2), lines);
            due("27: buys", x.buy(0, 0), 6);
            x.print();
            due("27: goes on", x.look(3) + x.look(4), lines + gaps + 4);
        }
    }

    private void promise28() {
        CommaOrphans x = three();
        Check.page(x, "abz, c");
        Check.word(x, "a");
        Check.word(x, "b");
        x.set(0, 0, 12);
        x.day();
        x.state(-5);
        Check.law(x, "pay 1;pay 2;pay 3;");
        x.print();
        due("28: apprentices", x.look(0), 3);
        due("28: page", x.look(1), 6);
        due("28: words", x.look(2), 2);
        due("28: roll and gaps", x.look(3) + x.look(4), 5);
        due("28: a gap at least", x.look(4) >= 0, true);
        due("28: day", x.look(5), 1);
        due("28: jealousy", x.look(6), 12);
        due("28: law", x.look(7), 3);
        due("28: undo", x.look(8), 1);
        int state = -5;
        for (int i = 0; i < 5; i++) {
            state = state * 1664525 + 1013904223;
        }
        due("28: state", x.look(9), state);
        due("28: another", x.look(10), NONE);
        due("28: another below", x.look(-1), NONE);
        due("28: far off", x.look(Integer.MIN_VALUE), NONE);
    }
}
