/** What the house holds: state, apprentices, signs, and what is asked of them (promises 1 to 5, 15 to 17, 28). */
final class HouseEdges extends EdgeGroup {
    private static final String ALL_SIGNS = "abcdefghijklmnopqrstuvwxyz,.;";

    HouseEdges(Edges edges) {
        super(edges);
    }

    @Override
    void all() {
        stateAtFirst();
        drawWraps();
        drawWithoutSign();
        signs();
        apprenticesAsTheyCome();
        purseBounds();
        breadBounds();
        strikeOrNot();
        hungryAtFirst();
        ownerAtFirst();
        burntAtFirst();
        jealousyBounds();
        dayBounds();
        constants();
        newObject();
        stateTold();
        apprentice();
        apprenticeRefused();
        own();
        ownRefused();
        setJealousy();
        setBurnt();
        setBread();
        setStrike();
        setPurse();
        setTold();
        setRefused();
        ofApprentice();
        ofRefused();
        ofSign();
        ofSignRefused();
        at();
        atRefused();
        look();
        lookRefused();
        lookLeavesState();
    }

    private void stateAtFirst() {
        term("STATE of draws (an int, 0 at first)");
        CommaOrphans x = new CommaOrphans();
        due("look(9)", x.look(9), 0);
        due("state(least)", x.state(LEAST), 0);
        due("the least int", x.state(MOST), LEAST);
        due("the most int", x.look(9), MOST);
    }

    /** With jealousy 1 a page of one sign makes one draw. */
    private void drawWraps() {
        term("a DRAW of m: it becomes 1664525 times itself + 1013904223 (ints, which wrap)");
        int[][] steps = {{0, 1013904223}, {1, 1015568748}, {MOST, -1135243950}, {LEAST, -1133579425},
            {-1, 1012239698}};
        for (int[] step : steps) {
            CommaOrphans x = owned("a", "");
            Check.page(x, "a");
            x.set(0, 0, 1);
            x.state(step[0]);
            x.print();
            due("state behind " + step[0], x.look(9), step[1]);
        }
    }

    /** Of "bc" the second draw tells whether c is misprinted as a: states with that draw, two of them below 0. */
    private void drawWithoutSign() {
        term("then it is its highest 24 bits (without sign) modulo m.");
        int[][] draws = {{0, 577}, {1, 333}, {7, 873}, {MOST, 428}, {12345, 626}};
        for (int[] draw : draws) {
            for (int more = 0; more < 2; more++) {
                CommaOrphans x = owned("ab", "c");
                Check.page(x, "bc");
                x.set(0, 0, draw[1] + more);
                x.state(draw[0]);
                x.print();
                due("from " + draw[0] + " with jealousy " + (draw[1] + more), x.sign(0, 2), more);
            }
        }
    }

    private void signs() {
        term("SIGNS 0 .. 28: small letters a .. z, then comma, point, semicolon.");
        CommaOrphans x = house(0);
        Check.page(x, ALL_SIGNS);
        for (int s = 0; s < 29; s++) {
            due("sign at " + s, x.at(s), s);
            due("is one: " + s, x.own(s, 0), true);
        }
        due("29 is none", x.own(29, 0), false);
        due("-1 is none", x.own(-1, 0), false);
        due("he owns all", x.of(0, 4), 29);
    }

    private void apprenticesAsTheyCome() {
        term("APPRENTICES 0 .. 7 as they come");
        CommaOrphans x = new CommaOrphans();
        for (int a = 0; a < 8; a++) {
            due("none yet " + a, x.of(a, 0), NONE - 1);
            due("number " + a, x.apprentice(10 * a, a), a);
        }
        for (int a = 0; a < 8; a++) {
            due("purse of " + a, x.of(a, 0), 10 * a);
            due("bread of " + a, x.of(a, 1), a);
        }
        due("none behind 7", x.of(8, 0), NONE - 1);
    }

    private void purseBounds() {
        term("a PURSE 0 .. 99999");
        CommaOrphans x = new CommaOrphans();
        due("-1", x.apprentice(-1, 0), NONE);
        due("100000", x.apprentice(100000, 0), NONE);
        due("none came", x.look(0), 0);
        due("0", x.apprentice(0, 0), 0);
        due("99999", x.apprentice(99999, 0), 1);
        due("is 99999", x.of(1, 0), 99999);
    }

    private void breadBounds() {
        term("BREAD 0 .. 99");
        CommaOrphans x = new CommaOrphans();
        due("-1", x.apprentice(0, -1), NONE);
        due("100", x.apprentice(0, 100), NONE);
        due("none came", x.look(0), 0);
        due("0", x.apprentice(7, 0), 0);
        due("99", x.apprentice(7, 99), 1);
        due("is 0", x.of(0, 1), 0);
        due("is 99", x.of(1, 1), 99);
    }

    private void strikeOrNot() {
        term("on STRIKE or not");
        CommaOrphans x = house(0, 0);
        due("a new one is not", x.of(0, 2), 0);
        x.set(3, 0, 1);
        due("on strike", x.of(0, 2), 1);
        due("the other is not", x.of(1, 2), 0);
        x.set(3, 0, 0);
        due("no more", x.of(0, 2), 0);
    }

    private void hungryAtFirst() {
        term("HUNGRY (DAYS; 0 at first).");
        CommaOrphans x = house(1);
        x.day();
        x.day();
        due("two days", x.of(0, 3), 2);
        x.apprentice(0, 1);
        due("one who comes later", x.of(1, 3), 0);
        x.day();
        due("then one day", x.of(1, 3), 1);
    }

    private void ownerAtFirst() {
        term("A SIGN has an OWNER or none (none at first)");
        CommaOrphans x = house(0, 0);
        for (int s = 0; s < 29; s++) {
            due("owner of " + s, x.sign(s, 0), NONE);
        }
        due("owns none", x.of(0, 4), 0);
        x.own(3, 0);
        x.own(3, 1);
        due("one owner alone", x.of(0, 4), 0);
        due("the later", x.sign(3, 0), 1);
    }

    private void burntAtFirst() {
        term("it is BURNT or not (not at first).");
        CommaOrphans x = house(0);
        for (int s = 0; s < 29; s++) {
            due("burnt at first: " + s, x.sign(s, 1), 0);
        }
        x.set(1, 5, 1);
        due("burnt", x.sign(5, 1), 1);
        due("beside it", x.sign(4, 1) + x.sign(6, 1), 0);
        x.set(1, 5, 0);
        due("no more", x.sign(5, 1), 0);
    }

    private void jealousyBounds() {
        term("JEALOUSY 0 .. 1000 (0 at first).");
        CommaOrphans x = new CommaOrphans();
        due("at first", x.look(6), 0);
        due("1000", x.set(0, 0, 1000), true);
        due("1001", x.set(0, 0, 1001), false);
        due("-1", x.set(0, 0, -1), false);
        due("as it was", x.look(6), 1000);
        due("0", x.set(0, 0, 0), true);
        due("is 0", x.look(6), 0);
    }

    private void dayBounds() {
        term("DAY 0 .. 9999 (0 at first).");
        CommaOrphans x = new CommaOrphans();
        due("at first", x.look(5), 0);
        for (int i = 0; i < 9998; i++) {
            x.day();
        }
        due("9998", x.look(5), 9998);
        due("the last that ends", x.day(), 0);
        due("9999", x.look(5), 9999);
        x.day();
        due("no more", x.look(5), 9999);
    }

    private void constants() {
        term("The constants: `NONE = -1`: None.");
        due("NONE", CommaOrphans.NONE, -1);
    }

    private void newObject() {
        promise(1, "An empty house.");
        CommaOrphans used = owned("ab", "c");
        Check.page(used, "ab");
        Check.law(used, "pay 5;");
        used.print();
        used.image(true);
        CommaOrphans x = new CommaOrphans();
        for (int what = 0; what < 10; what++) {
            due("look(" + what + ")", x.look(what), 0);
        }
        due("no apprentice", x.of(0, 0), NONE - 1);
        due("no page", x.at(0), NONE);
        due("no roll", x.roll(0, 0), NONE);
        due("no word", x.can(), 0);
        due("no liar", x.liars(), 0);
        due("no fault", x.fault(0), 0);
        due("no place of it", x.fault(1), NONE);
        due("nothing on the tape", x.end(1), false);
        due("nothing to undo", x.undo(), false);
        due("no image", x.image(false), false);
    }

    private void stateTold() {
        promise(2, "STATE is told: what it was.");
        CommaOrphans x = new CommaOrphans();
        due("first", x.state(-7), 0);
        due("then", x.state(MOST), -7);
        due("the same again", x.state(MOST), MOST);
        due("0 too", x.state(0), MOST);
        due("is told", x.look(9), 0);
    }

    private void apprentice() {
        promise(3, "An APPRENTICE: the number");
        CommaOrphans x = new CommaOrphans();
        due("first", x.apprentice(99999, 99), 0);
        due("second", x.apprentice(0, 0), 1);
        due("purse", x.of(0, 0), 99999);
        due("bread", x.of(0, 1), 99);
        due("no strike", x.of(0, 2), 0);
        due("not hungry", x.of(0, 3), 0);
        due("owns none", x.of(0, 4), 0);
        due("told none", x.of(0, 5), NONE);
        due("two", x.look(0), 2);
    }

    private void apprenticeRefused() {
        promise(3, "NONE if one can't be, or there are eight.");
        CommaOrphans x = new CommaOrphans();
        int[][] cannotBe = {{-1, 0}, {100000, 0}, {0, -1}, {0, 100}, {LEAST, 5}, {5, LEAST}, {MOST, 5}, {5, MOST}};
        for (int[] one : cannotBe) {
            due("purse " + one[0] + ", bread " + one[1], x.apprentice(one[0], one[1]), NONE);
        }
        due("none came", x.look(0), 0);
        for (int a = 0; a < 7; a++) {
            x.apprentice(a, a);
        }
        due("one that can't be is not the eighth", x.apprentice(-1, 0), NONE);
        due("the eighth", x.apprentice(1, 1), 7);
        due("the ninth", x.apprentice(2, 2), NONE);
        due("still eight", x.look(0), 8);
        due("the eighth is as it was", x.of(7, 0), 1);
    }

    private void own() {
        promise(4, "A SIGN is an APPRENTICE's (NONE: nobody's): true");
        CommaOrphans x = house(0, 0, 0, 0, 0, 0, 0, 0);
        due("the first sign", x.own(0, 0), true);
        due("the last sign, the last apprentice", x.own(28, 7), true);
        due("is his", x.sign(28, 0), 7);
        due("changes hands", x.own(28, 0), true);
        due("is the other's", x.sign(28, 0), 0);
        due("nobody's", x.own(28, NONE), true);
        due("has none", x.sign(28, 0), NONE);
        due("nobody's again", x.own(28, NONE), true);
        due("nobody's in an empty house", new CommaOrphans().own(0, NONE), true);
    }

    private void ownRefused() {
        promise(4, "false if one can't be.");
        CommaOrphans x = house(0, 0);
        x.own(0, 1);
        x.own(28, 1);
        int[][] cannotBe = {{-1, 0}, {29, 0}, {29, NONE}, {-1, NONE}, {0, 2}, {0, -2}, {28, 8}, {LEAST, 0}, {MOST, 0},
            {0, LEAST}, {0, MOST}};
        for (int[] one : cannotBe) {
            due("own(" + one[0] + ", " + one[1] + ")", x.own(one[0], one[1]), false);
        }
        due("owners stay", x.of(1, 4), 2);
        due("the first in an empty house", new CommaOrphans().own(0, 0), false);
    }

    private void setJealousy() {
        promise(5, "What 0 JEALOUSY (who not asked)");
        CommaOrphans x = new CommaOrphans();
        int[] anybody = {0, -1, 8, 29, LEAST, MOST};
        for (int i = 0; i < anybody.length; i++) {
            due("who " + anybody[i], x.set(0, anybody[i], 1000 - i), true);
            due("is told", x.look(6), 1000 - i);
        }
        due("0", x.set(0, -5, 0), true);
        due("is 0", x.look(6), 0);
        due("1001", x.set(0, 0, 1001), false);
        due("-1", x.set(0, 0, -1), false);
        due("far above", x.set(0, 0, MOST), false);
        due("still 0", x.look(6), 0);
    }

    private void setBurnt() {
        promise(5, "1 BURNT (0, 1) of SIGN who");
        CommaOrphans x = new CommaOrphans();
        due("the first", x.set(1, 0, 1), true);
        due("the last", x.set(1, 28, 1), true);
        due("is burnt", x.sign(28, 1), 1);
        due("2", x.set(1, 28, 2), false);
        due("-1", x.set(1, 28, -1), false);
        due("still burnt", x.sign(28, 1), 1);
        due("sign 29", x.set(1, 29, 1), false);
        due("sign -1", x.set(1, -1, 1), false);
        due("sign far off", x.set(1, MOST, 1) || x.set(1, LEAST, 1), false);
        due("no more", x.set(1, 28, 0), true);
        due("is not", x.sign(28, 1), 0);
        due("the first still is", x.sign(0, 1), 1);
    }

    /** A number of an apprentice: the most and the least it may be, and beyond. */
    private void bounds(int what, int least, int most, int ofWhat) {
        CommaOrphans x = house(5, 5);
        due("the most", x.set(what, 1, most), true);
        due("is the most", x.of(1, ofWhat), most);
        due("above", x.set(what, 1, most + 1), false);
        due("far above", x.set(what, 1, MOST), false);
        due("still the most", x.of(1, ofWhat), most);
        due("the least", x.set(what, 1, least), true);
        due("is the least", x.of(1, ofWhat), least);
        due("below", x.set(what, 1, least - 1), false);
        due("far below", x.set(what, 1, LEAST), false);
        due("still the least", x.of(1, ofWhat), least);
        CommaOrphans y = house(5, 5);
        for (int i = 0; i < 6; i++) {
            due("the other's stay", x.of(0, i), y.of(0, i));
            due("his others stay", x.of(1, i), i == ofWhat ? least : y.of(1, i));
        }
        due("nobody", x.set(what, 2, most), false);
        due("nobody below", x.set(what, -1, most), false);
        due("nobody far off", x.set(what, MOST, most) || x.set(what, LEAST, most), false);
        due("nobody in an empty house", new CommaOrphans().set(what, 0, most), false);
    }

    private void setBread() {
        promise(5, "2 BREAD");
        bounds(2, 0, 99, 1);
    }

    private void setStrike() {
        promise(5, "3 on STRIKE (0, 1)");
        bounds(3, 0, 1, 2);
    }

    private void setPurse() {
        promise(5, "4 PURSE");
        bounds(4, 0, 99999, 0);
    }

    private void setTold() {
        promise(5, "5 TOLD (NONE .. 99999) of APPRENTICE who: true");
        bounds(5, NONE, 99999, 5);
    }

    private void setRefused() {
        promise(5, "false if one can't be, or another what.");
        CommaOrphans x = house(5, 5);
        for (int what : new int[] {6, 7, -1, LEAST, MOST}) {
            due("set(" + what + ", ..)", x.set(what, 0, 0) || x.set(what, 0, 1) || x.set(what, 0, NONE), false);
        }
        for (int what = 1; what < 6; what++) {
            due("who -1 of " + what, x.set(what, -1, 1), false);
            due("who 29 of " + what, x.set(what, 29, 1), false);
        }
        due("nothing is told", x.of(0, 0) + x.of(0, 1) + x.of(0, 2) + x.of(0, 5), 0 + 5 + 0 + NONE);
    }

    private void ofApprentice() {
        CommaOrphans x = house(9, 8);
        Check.own(x, "bcd", 1);
        Check.page(x, "abcb d,");
        promise(15, "Of an APPRENTICE what 0 PURSE");
        due("at first", x.of(1, 0), 0);
        x.set(4, 1, 99999);
        due("full", x.of(1, 0), 99999);
        promise(15, "1 BREAD");
        due("his", x.of(1, 1), 8);
        due("the other's", x.of(0, 1), 9);
        promise(15, "2 STRIKE (1, 0)");
        due("not", x.of(1, 2), 0);
        x.set(3, 1, 1);
        due("on strike", x.of(1, 2), 1);
        x.set(3, 1, 0);
        promise(15, "3 HUNGRY");
        due("not yet", x.of(0, 3), 0);
        x.day();
        due("one day", x.of(0, 3), 1);
        due("he ate", x.of(1, 3), 0);
        promise(15, "4 how many SIGNS he OWNS");
        due("none", x.of(0, 4), 0);
        due("three", x.of(1, 4), 3);
        x.set(1, 1, 1);
        due("a burnt one too", x.of(1, 4), 3);
        x.set(1, 1, 0);
        promise(15, "5 TOLD (NONE)");
        due("none", x.of(1, 5), NONE);
        x.set(5, 1, 0);
        due("nought", x.of(1, 5), 0);
        promise(15, "6 EARNS by THE PAGE.");
        due("four signs, though his purse is nearly full", x.of(1, 6), 4);
        due("nothing without a sign", x.of(0, 6), 0);
        x.page();
        due("nothing by an empty page", x.of(1, 6), 0);
    }

    private void ofRefused() {
        promise(15, "NONE - 1 if there is none such, or another what.");
        CommaOrphans x = house(0, 0);
        for (int what = 0; what < 7; what++) {
            due("of(1, " + what + ") is one", x.of(1, what) > NONE - 1, true);
            due("of(2, " + what + ")", x.of(2, what), -2);
            due("of(-1, " + what + ")", x.of(-1, what), -2);
            due("far off", x.of(MOST, what) + x.of(LEAST, what), -4);
        }
        due("what 7", x.of(1, 7), -2);
        due("what -1", x.of(1, -1), -2);
        due("what far off", x.of(1, MOST) + x.of(1, LEAST), -4);
    }

    private void ofSign() {
        CommaOrphans x = owned("a", "b,");
        Check.page(x, "abb,;");
        x.set(1, 26, 1);
        x.print();
        promise(16, "Of a SIGN what 0 OWNER (NONE)");
        due("a", x.sign(0, 0), 0);
        due("comma", x.sign(26, 0), 1);
        due("semicolon", x.sign(28, 0), NONE);
        promise(16, "1 BURNT (1, 0)");
        due("comma", x.sign(26, 1), 1);
        due("a", x.sign(0, 1), 0);
        promise(16, "2 PRINTED.");
        due("once", x.sign(0, 2), 1);
        due("twice", x.sign(1, 2), 2);
        due("burnt: a gap", x.sign(26, 2), 0);
        due("nobody's: a gap", x.sign(28, 2), 0);
    }

    private void ofSignRefused() {
        promise(16, "NONE - 1 if there is none such, or another what.");
        CommaOrphans x = house(0);
        for (int what = 0; what < 3; what++) {
            due("the last", x.sign(28, what) > NONE - 1, true);
            due("sign(29, " + what + ")", x.sign(29, what), -2);
            due("sign(-1, " + what + ")", x.sign(-1, what), -2);
            due("far off", x.sign(MOST, what) + x.sign(LEAST, what), -4);
        }
        due("what 3", x.sign(0, 3), -2);
        due("what -1", x.sign(0, -1), -2);
        due("what far off", x.sign(0, MOST) + x.sign(0, LEAST), -4);
    }

    private void at() {
        promise(17, "What is at place i of THE PAGE: a SIGN, 29 a blank.");
        CommaOrphans x = new CommaOrphans();
        Check.page(x, "a;\n z");
        int[] row = {0, 28, 29, 29, 25};
        for (int i = 0; i < row.length; i++) {
            due("at(" + i + ")", x.at(i), row[i]);
        }
    }

    private void atRefused() {
        promise(17, "NONE if there is none such.");
        CommaOrphans x = new CommaOrphans();
        due("an empty page", x.at(0), NONE);
        Check.page(x, "ab ");
        due("ahead", x.at(-1), NONE);
        due("the last", x.at(2), 29);
        due("behind", x.at(3), NONE);
        Check.page(x, "a".repeat(60));
        due("the sixtieth", x.at(59), 0);
        due("the sixty-first", x.at(60), NONE);
        due("far off", x.at(MOST) + x.at(LEAST), 2 * NONE);
        Check.page(x, "b");
        due("what an earlier page had", x.at(1), NONE);
    }

    private void look() {
        CommaOrphans x = owned("ab", "c");
        Check.page(x, "abz c");
        Check.word(x, "a");
        Check.word(x, "b");
        Check.law(x, "pay 1;pay 2;pay 3;pay 4;pay 5;pay 6;");
        x.set(0, 0, 1000);
        x.day();
        x.state(-5);
        x.print();
        x.print();
        promise(28, "What 0 APPRENTICES");
        due("look(0)", x.look(0), 3);
        promise(28, "1 how long THE PAGE is");
        due("look(1)", x.look(1), 5);
        promise(28, "2 WORDS in THE LIST");
        due("look(2)", x.look(2), 2);
        promise(28, "3 lines of THE ROLL");
        due("look(3): four misprints as a", x.look(3), 8);
        promise(28, "4 GAPS in all");
        x.own(0, NONE);
        x.own(1, NONE);
        x.print();
        x.set(0, 0, 7);
        due("a, b, z", x.look(4), 3);
        x.own(2, NONE);
        x.print();
        due("and all four then", x.look(4), 7);
        promise(28, "5 DAY");
        due("look(5)", x.look(5), 1);
        promise(28, "6 JEALOUSY");
        due("look(6)", x.look(6), 7);
        promise(28, "7 lines of THE LAW");
        due("look(7)", x.look(7), 6);
        promise(28, "8 what can be undone");
        due("one printing", x.look(8), 1);
        x.undo();
        due("none", x.look(8), 0);
        promise(28, "9 STATE.");
        x.state(-5);
        due("look(9)", x.look(9), -5);
    }

    private void lookRefused() {
        promise(28, "NONE for another what.");
        CommaOrphans x = new CommaOrphans();
        for (int what : new int[] {10, 11, -1, LEAST, MOST}) {
            due("look(" + what + ")", x.look(what), NONE);
        }
    }

    private void lookLeavesState() {
        promise(28, "(STATE as it is.)");
        CommaOrphans x = new CommaOrphans();
        x.state(LEAST);
        x.print();
        due("the least int", x.look(9), LEAST);
        due("again", x.look(9), LEAST);
        due("what can be undone stays", x.look(8), 1);
        x.state(-1);
        due("the state -1 is no NONE", x.look(9), -1);
    }
}
