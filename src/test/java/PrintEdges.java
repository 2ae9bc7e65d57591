/** Printing, misprints, the roll, and days that end (promises 13, 14, 19). */
final class PrintEdges extends EdgeGroup {
    PrintEdges(Edges edges) {
        super(edges);
    }

    @Override
    void all() {
        canBePrinted();
        placeByPlace();
        drawsIfJealous();
        belowJealousy();
        leastOfTheLast();
        paysWithWhatCounts();
        mostInPurse();
        gaps();
        rollOf200();
        rollLine();
        breadOrMore();
        hungryOneDayMore();
        print();
        hungryToday();
        lastDay();
        roll();
        rollRefused();
    }

    private void canBePrinted() {
        term("A SIGN can be PRINTED, if it is not BURNT, has an OWNER, and he is not on STRIKE.");
        CommaOrphans x = owned("a", "b", ",");
        Check.page(x, "ab,z");
        due("all but nobody's", x.print(), 3);
        x.set(1, 0, 1);
        due("a burnt", x.print(), 2);
        x.set(3, 1, 1);
        due("b's man on strike", x.print(), 1);
        x.own(26, NONE);
        due("comma nobody's", x.print(), 0);
        x.own(0, 2);
        due("a is the third's, but burnt", x.print(), 0);
        x.set(1, 0, 0);
        due("burnt no more", x.print(), 1);
        x.set(3, 1, 0);
        due("on strike no more", x.print(), 2);
    }

    private void placeByPlace() {
        term("PRINTING THE PAGE: place by place (blanks: nothing)");
        CommaOrphans x = owned("ab", "");
        Check.page(x, " b\n a");
        due("two", x.print(), 2);
        due("a blank is no gap", x.look(4), 0);
        due("first what stands first", x.roll(0, 0), 1);
        due("its place", x.roll(0, 2), 1);
        due("then the other", x.roll(1, 0), 0);
        due("its place", x.roll(1, 2), 4);
        due("no more lines", x.look(3), 2);
    }

    private void drawsIfJealous() {
        term("if JEALOUSY is above 0, a DRAW of 1000");
        CommaOrphans x = owned("a", "");
        Check.page(x, "a z\n;");
        x.state(5);
        x.print();
        due("jealousy 0: none", x.look(9), 5);
        x.set(0, 0, 1);
        x.print();
        int state = 5;
        for (int i = 0; i < 3; i++) {
            state = state * 1664525 + 1013904223;
        }
        due("jealousy 1: one for each sign, for gaps too, none for blanks", x.look(9), state);
        x.page();
        x.print();
        due("none for an empty page", x.look(9), state);
    }

    /** How often "bc" is printed as "ba": the state tells the draw that c meets. */
    private void misprints(int state, int jealousy, int want) {
        CommaOrphans x = owned("ab", "c");
        Check.page(x, "bc");
        x.set(0, 0, jealousy);
        x.state(state);
        due("two, jealousy " + jealousy, x.print(), 2);
        due("a, jealousy " + jealousy, x.sign(0, 2), want);
        due("c, jealousy " + jealousy, x.sign(2, 2), 1 - want);
    }

    private void belowJealousy() {
        term("below JEALOUSY it is MISPRINTED");
        misprints(0, 576, 0);
        misprints(0, 577, 0);
        misprints(0, 578, 1);
        misprints(120, 0, 0);
        misprints(120, 1, 1);
        misprints(482, 999, 0);
        misprints(482, 1000, 1);
    }

    private void printed(CommaOrphans x, String page, int gaps, int... signs) {
        Check.page(x, page);
        int before = x.look(3);
        int gapsBefore = x.look(4);
        due("of " + page, x.print(), signs.length);
        for (int i = 0; i < signs.length; i++) {
            due("sign " + i + " of " + page, x.roll(before + i, 0), signs[i]);
        }
        due("gaps of " + page, x.look(4) - gapsBefore, gaps);
    }

    /** With jealousy 500 the draws from state 34 misprint the third sign, those from 52 the second and the fourth. */
    private void leastOfTheLast() {
        term("the SIGN that counts is the least one that is OWNED by the OWNER of the SIGN that was printed last in this"
            + " PRINTING (as it is, if none was yet).");
        CommaOrphans x = owned("aby", "cd", ".;");
        x.set(0, 0, 1000);
        printed(x, "y,", 0, 24, 0);
        printed(x, "dab", 0, 3, 2, 2);
        printed(x, ";y z", 0, 28, 27, 27);
        printed(x, "zzdb", 2, 3, 2);
        printed(x, "b", 0, 1);
        printed(x, "d", 0, 3);
        x.set(1, 0, 1);
        printed(x, "bdd", 2, 1);
        x.set(1, 0, 0);
        x.set(0, 0, 500);
        x.state(34);
        printed(x, "bdbb", 0, 1, 3, 2, 1);
        x.state(52);
        printed(x, "bdzd", 1, 1, 0, 0);
        x.set(3, 2, 1);
        x.state(52);
        printed(x, "bd;d", 1, 1, 0, 0);
    }

    private void paysWithWhatCounts() {
        term("If the SIGN that counts can be PRINTED, its OWNER gets what it PAYS at that place (by THE PAGE as it is set,"
            + " but with the SIGN that counts at that place)");
        String[] laws = {"pay sign+1;", "pay left+1;", "pay 10*long+first;", "pay used+1;", "pay owner+3;", "pay 5*vowel;"};
        int[][] want = {{2, 1, 1}, {30, 2, 30}, {11, 30, 11}, {1, 1, 1}, {3, 3, 3}, {0, 5, 5}};
        for (int i = 0; i < laws.length; i++) {
            CommaOrphans x = owned("ab", "d");
            x.set(0, 0, 1000);
            Check.page(x, "b,d");
            Check.law(x, laws[i]);
            due("b and two a", x.print(), 3);
            int sum = 0;
            for (int place = 0; place < 3; place++) {
                due(laws[i] + " at " + place, x.roll(place, 4), want[i][place]);
                sum += want[i][place];
            }
            due("all are his", x.of(0, 0), sum);
            due("the page is as it was set", x.at(1), 26);
        }
        CommaOrphans y = owned("ab", "cd");
        Check.page(y, "bd,b");
        Check.law(y, "pay long;");
        y.set(0, 0, 500);
        y.state(34);
        due("the comma alone is misprinted, as c", y.print(), 4);
        due("c makes one word of all", y.roll(2, 4), 4);
        due("b is in a word of its own again", y.roll(3, 4), 1);
    }

    private void mostInPurse() {
        term("99999 at most in a PURSE");
        CommaOrphans x = owned("a", "");
        x.set(4, 0, 99994);
        Check.page(x, "aaa");
        Check.law(x, "pay 3;");
        due("all are printed", x.print(), 3);
        due("the most", x.of(0, 0), 99999);
        due("all came", x.roll(0, 4), 3);
        due("two came", x.roll(1, 4), 2);
        due("nothing came", x.roll(2, 4), 0);
        x.set(4, 0, 99993);
        x.print();
        due("just below", x.roll(4, 4) + x.roll(5, 4), 6 - 3);
    }

    private void gaps() {
        term("else there is a GAP.");
        CommaOrphans x = owned("a", "b", "c");
        Check.page(x, "abcz a");
        x.set(1, 0, 1);
        x.set(3, 1, 1);
        due("c alone", x.print(), 1);
        due("gaps", x.look(4), 4);
        due("no line for a gap", x.look(3), 1);
        due("nobody is paid for one", x.of(0, 0) + x.of(1, 0), 0);
        due("nor is it printed", x.sign(0, 2) + x.sign(1, 2) + x.sign(25, 2), 0);
        x.print();
        due("gaps in all", x.look(4), 8);
        x.set(1, 0, 0);
        x.set(3, 1, 0);
        x.own(25, 0);
        x.print();
        due("no more", x.look(4), 8);
    }

    private void rollOf200() {
        term("THE ROLL (200 lines; no more then)");
        CommaOrphans x = owned("a", "b");
        Check.page(x, "a".repeat(50));
        for (int i = 1; i <= 4; i++) {
            x.print();
            due("lines", x.look(3), 50 * i);
        }
        due("the last line", x.roll(199, 2), 49);
        Check.page(x, "b");
        due("b is printed", x.print(), 1);
        due("no more lines", x.look(3), 200);
        due("no line behind", x.roll(200, 0), NONE);
        due("the first stays", x.roll(0, 0), 0);
        due("the last stays", x.roll(199, 0), 0);
        due("he is paid", x.of(1, 0), 1);
        CommaOrphans y = owned("a", "b");
        Check.page(y, "ab".repeat(30));
        for (int i = 0; i < 4; i++) {
            due("all sixty", y.print(), 60);
        }
        due("200 of 240", y.look(3), 200);
        due("the twentieth of the fourth", y.roll(199, 2), 19);
    }

    private void rollLine() {
        term("SIGN that counts, DAY, place, OWNER, what came into his PURSE.");
        CommaOrphans x = owned("ab", "c");
        x.set(0, 0, 1000);
        x.set(4, 0, 99998);
        x.day();
        Check.page(x, " b c");
        Check.law(x, "pay 7;");
        due("two", x.print(), 2);
        int[][] want = {{1, 1, 1, 0, 1}, {0, 1, 3, 0, 0}};
        for (int line = 0; line < 2; line++) {
            for (int what = 0; what < 5; what++) {
                due("line " + line + ", " + what, x.roll(line, what), want[line][what]);
            }
        }
        x.own(1, 1);
        x.day();
        due("its owner stays as he was", x.roll(0, 3), 0);
        due("its day too", x.roll(0, 1), 1);
    }

    private void breadOrMore() {
        term("A DAY ends: APPRENTICE by number: with BREAD or more in his PURSE it is BREAD less");
        int[][] cases = {{5, 5, 0}, {6, 5, 1}, {4, 5, 4}, {0, 0, 0}, {7, 0, 7}, {99999, 99, 99900}, {99, 99, 0}, {98, 99, 98}};
        CommaOrphans x = new CommaOrphans();
        for (int[] one : cases) {
            x.apprentice(one[0], one[1]);
        }
        x.set(3, 0, 1);
        x.day();
        for (int a = 0; a < 8; a++) {
            due("purse " + cases[a][0] + ", bread " + cases[a][1], x.of(a, 0), cases[a][2]);
            due("bread stays", x.of(a, 1), cases[a][1]);
        }
    }

    private void hungryOneDayMore() {
        term("else he is HUNGRY one DAY more; DAY is one more.");
        CommaOrphans x = new CommaOrphans();
        x.apprentice(4, 5);
        x.apprentice(5, 5);
        x.apprentice(0, 0);
        x.set(3, 0, 1);
        x.day();
        due("one day", x.of(0, 3), 1);
        due("he ate", x.of(1, 3), 0);
        due("who needs none", x.of(2, 3), 0);
        due("day 1", x.look(5), 1);
        x.day();
        due("two days", x.of(0, 3), 2);
        due("his first", x.of(1, 3), 1);
        due("never", x.of(2, 3), 0);
        due("day 2", x.look(5), 2);
        x.set(4, 0, 5);
        x.day();
        due("who eats stays at two", x.of(0, 3), 2);
    }

    private void print() {
        promise(13, "PRINTING THE PAGE: how many SIGNS were printed.");
        CommaOrphans x = owned("a", "b");
        due("an empty page", x.print(), 0);
        Check.page(x, " \n  ");
        due("blanks", x.print(), 0);
        Check.page(x, "zzz");
        due("gaps alone", x.print(), 0);
        Check.page(x, "a zb,a");
        due("three", x.print(), 3);
        Check.page(x, "ab".repeat(30));
        due("sixty", x.print(), 60);
        due("purses", x.of(0, 0) + 100 * x.of(1, 0), 32 + 100 * 31);
        due("the page stays", x.look(1), 60);
        due("an empty house", new CommaOrphans().print(), 0);
    }

    private void hungryToday() {
        promise(14, "A DAY ends: how many are HUNGRY today");
        CommaOrphans x = new CommaOrphans();
        due("nobody is there", x.day(), 0);
        x.apprentice(4, 5);
        x.apprentice(5, 5);
        x.apprentice(0, 0);
        due("one", x.day(), 1);
        due("two", x.day(), 2);
        x.set(4, 0, 5);
        due("one was hungry before, but eats today", x.day(), 1);
        x.set(2, 1, 0);
        x.set(2, 0, 0);
        due("none today", x.day(), 0);
        due("two were", x.of(0, 3) + 10 * x.of(1, 3), 2 + 20);
    }

    private void lastDay() {
        promise(14, "NONE, and nothing is done, if DAY is 9999.");
        CommaOrphans x = house(1);
        for (int i = 0; i < 9998; i++) {
            x.day();
        }
        due("9998 ends", x.day(), 1);
        due("is 9999", x.look(5), 9999);
        x.set(4, 0, 50);
        x.print();
        due("9999 does not", x.day(), NONE);
        due("the day stays", x.look(5), 9999);
        due("the purse stays", x.of(0, 0), 50);
        x.set(4, 0, 0);
        x.print();
        due("9999 does not, again", x.day(), NONE);
        due("he is no hungrier", x.of(0, 3), 9999);
        due("what can be undone stays", x.look(8), 1);
    }

    private void roll() {
        promise(19, "Of line i of THE ROLL what 0 SIGN, 1 DAY, 2 place, 3 OWNER, 4 what he got.");
        CommaOrphans x = owned("a", "b", ";");
        x.day();
        x.day();
        Check.page(x, "zb ;");
        Check.law(x, "pay 20+place;");
        x.print();
        int[][] want = {{1, 2, 1, 1, 21}, {28, 2, 3, 2, 23}};
        for (int line = 0; line < 2; line++) {
            for (int what = 0; what < 5; what++) {
                due("line " + line + ", " + what, x.roll(line, what), want[line][what]);
            }
        }
    }

    private void rollRefused() {
        promise(19, "NONE if there is none such, or another what.");
        CommaOrphans x = owned("b", "");
        due("no line yet", x.roll(0, 0), NONE);
        Check.page(x, "zb");
        x.print();
        for (int what = 0; what < 5; what++) {
            due("line 1, " + what, x.roll(1, what), NONE);
            due("line -1, " + what, x.roll(-1, what), NONE);
            due("lines far off, " + what, x.roll(MOST, what) + x.roll(LEAST, what), 2 * NONE);
        }
        due("what 4", x.roll(0, 4), 1);
        due("what 5", x.roll(0, 5), NONE);
        due("what -1", x.roll(0, -1), NONE);
        due("what far off", x.roll(0, MOST) + x.roll(0, LEAST), 2 * NONE);
        Check.page(x, "b".repeat(60));
        for (int i = 0; i < 4; i++) {
            x.print();
        }
        due("line 199", x.roll(199, 0), 1);
        due("line 200", x.roll(200, 0), NONE);
        due("behind it, what -1 is no line ahead", x.roll(200, -1), NONE);
        due("line 1, what -1", x.roll(1, -1), NONE);
        due("line 0, what 9", x.roll(0, 9), NONE);
    }
}
