/** Printings undone, and the image from which all goes on (promises 26, 27). */
final class BackEdges extends EdgeGroup {
    BackEdges(Edges edges) {
        super(edges);
    }

    @Override
    void all() {
        latestGoesBack();
        sixAreKept();
        othersForget();
        textsForgetNothing();
        undo();
        undoRefused();
        allIsKept();
        butTheTape();
        asItWasTaken();
        moreThanOnce();
        image();
        imageRefused();
    }

    /** A house in which each printing makes draws, gaps and full purses. */
    private static CommaOrphans busy() {
        CommaOrphans x = owned("ab", "c", ",.");
        x.set(0, 0, 300);
        x.state(12345);
        x.set(4, 1, 99990);
        Check.page(x, "ab,cz ac.b");
        Check.law(x, "pay 3+long+used when left<29;pay 2;");
        return x;
    }

    private void latestGoesBack() {
        term("UNDO: the latest PRINTING not undone yet goes back (PURSES, PRINTED, THE ROLL, GAPS, STATE)");
        CommaOrphans x = busy();
        String[] before = new String[4];
        for (int i = 0; i < 4; i++) {
            before[i] = Witness.of(x);
            x.print();
        }
        x.undo();
        due("as before the fourth", Witness.of(x).equals(before[3]), true);
        x.print();
        x.undo();
        x.undo();
        due("as before the third", Witness.of(x).equals(before[2]), true);
        x.undo();
        due("as before the second", Witness.of(x).equals(before[1]), true);
        x.undo();
        due("as before the first", Witness.of(x).equals(before[0]), true);
        due("purse", x.of(1, 0), 99990);
        due("printed", x.sign(0, 2), 0);
        due("the roll", x.look(3), 0);
        due("gaps", x.look(4), 0);
        due("state", x.look(9), 12345);
        Check.page(x, "a".repeat(60));
        x.set(0, 0, 0);
        for (int i = 0; i < 5; i++) {
            x.print();
        }
        x.undo();
        due("the roll is still full", x.look(3), 200);
        due("printed beyond it", x.sign(0, 2), 240);
        x.undo();
        due("it is full no more", x.look(3), 180);
        due("no line behind", x.roll(180, 0), NONE);
        Check.page(x, "c");
        x.print();
        due("another line stands there", x.roll(180, 0), 2);
    }

    private void sixAreKept() {
        term("6 are kept");
        CommaOrphans x = busy();
        String[] before = new String[9];
        for (int i = 0; i < 9; i++) {
            before[i] = Witness.lasting(x);
            x.print();
            due("can be undone after " + (i + 1), x.look(8), Math.min(i + 1, 6));
        }
        for (int i = 8; i >= 3; i--) {
            due("undo " + i, x.undo(), true);
            due("as before " + i, Witness.lasting(x).equals(before[i]), true);
            due("left", x.look(8), i - 3);
        }
        due("no seventh", x.undo(), false);
        due("nothing is done", Witness.lasting(x).equals(before[3]), true);
    }

    private void forgets(String call, CommaOrphans x, boolean forgets) {
        due(call + ": what can be undone", x.look(8), forgets ? 0 : 2);
        due(call + ": undo", x.undo(), !forgets);
    }

    private static CommaOrphans printedTwice() {
        CommaOrphans x = owned("ab", "c");
        Check.page(x, "abc");
        x.image(true);
        x.print();
        x.print();
        return x;
    }

    private void othersForget() {
        term("whatever else is told or done");
        CommaOrphans x = printedTwice();
        x.state(0);
        forgets("state, the same", x, true);
        x = printedTwice();
        x.apprentice(0, 0);
        forgets("apprentice", x, true);
        x = printedTwice();
        x.own(0, 0);
        forgets("own, the same", x, true);
        x = printedTwice();
        x.own(25, NONE);
        forgets("own, nobody's", x, true);
        for (int what = 0; what < 5; what++) {
            x = printedTwice();
            x.set(what, 1, 0);
            forgets("set " + what, x, true);
        }
        x = printedTwice();
        x.day();
        forgets("day", x, true);
        x = printedTwice();
        x.image(false);
        forgets("image gone back to", x, true);
    }

    private void textsForgetNothing() {
        term("but texts, THE PAGE, THE LIST, TOLD and the taking of THE IMAGE forgets them.");
        CommaOrphans x = printedTwice();
        Check.law(x, "pay 3;");
        forgets("a text", x, false);
        x = printedTwice();
        Check.law(x, "x");
        forgets("a text with a fault", x, false);
        x = printedTwice();
        Check.page(x, "b");
        forgets("a page", x, false);
        due("it stays", x.at(0), 1);
        x = printedTwice();
        Check.page(x, "B");
        forgets("no page", x, false);
        x = printedTwice();
        Check.word(x, "a");
        forgets("a word", x, false);
        x = printedTwice();
        x.clear();
        forgets("clear", x, false);
        x = printedTwice();
        x.set(5, 0, 7);
        forgets("told", x, false);
        due("it stays", x.of(0, 5), 7);
        x = printedTwice();
        x.image(true);
        forgets("image taken", x, false);
        x = printedTwice();
        Witness.of(x);
        forgets("what is asked", x, false);
        x = printedTwice();
        x.own(29, 0);
        x.own(0, 5);
        x.set(0, 0, 1001);
        x.set(9, 0, 0);
        x.set(4, 5, 0);
        x.apprentice(-1, 0);
        forgets("what is refused", x, false);
    }

    private void undo() {
        promise(26, "UNDO: true");
        CommaOrphans x = owned("ab", "");
        Check.page(x, "abz");
        x.print();
        due("undo", x.undo(), true);
        due("purse", x.of(0, 0), 0);
        due("gaps", x.look(4), 0);
        x.page();
        x.print();
        due("a printing of an empty page too", x.undo(), true);
    }

    private void undoRefused() {
        promise(26, "false if there is nothing.");
        CommaOrphans x = owned("ab", "");
        due("nothing yet", x.undo(), false);
        Check.page(x, "ab");
        x.print();
        x.print();
        x.undo();
        x.undo();
        due("no third", x.undo(), false);
        due("nothing is done", x.of(0, 0) + x.look(3), 0);
        x.print();
        x.day();
        due("forgotten", x.undo(), false);
        due("the purse stays", x.of(0, 0), 2);
    }

    /** Another house in all that can be told. */
    private static void changeAll(CommaOrphans x) {
        x.apprentice(5, 5);
        Check.own(x, "abc,xyz", 3);
        x.set(0, 0, 17);
        for (int s = 3; s < 20; s++) {
            x.set(1, s, 1);
        }
        for (int a = 0; a < 4; a++) {
            x.set(2, a, 20 + a);
            x.set(4, a, 500 + a);
            x.set(5, a, 60 + a);
        }
        x.day();
        x.set(2, 1, 99);
        x.set(4, 1, 0);
        x.day();
        x.set(3, 0, 1);
        Check.page(x, "xyz;xyz,");
        x.clear();
        Check.word(x, "xyz");
        Check.word(x, "abc");
        Check.word(x, "x");
        Check.law(x, "pay 7 when vowel=0;pay 9;");
        x.state(-9);
        x.print();
        x.print();
    }

    private static CommaOrphans settled() {
        CommaOrphans x = busy();
        Check.word(x, "abc");
        Check.word(x, "z");
        x.set(1, 1, 1);
        x.set(3, 2, 1);
        x.set(5, 0, 3);
        x.set(2, 0, 4);
        x.day();
        x.print();
        x.print();
        return x;
    }

    private void allIsKept() {
        term("THE IMAGE: all that is and was told");
        CommaOrphans x = settled();
        String before = Witness.lasting(x);
        x.image(true);
        due("taking changes nothing", Witness.lasting(x).equals(before), true);
        changeAll(x);
        due("another house", Witness.lasting(x).equals(before), false);
        x.image(false);
        due("as it was", Witness.lasting(x).equals(before), true);
        CommaOrphans y = settled();
        for (int i = 0; i < 3; i++) {
            due("all goes on", x.print(), y.print());
            due("in the same way", Witness.lasting(x).equals(Witness.lasting(y)), true);
        }
        fullHouseIsKept();
        rollIsKept();
        due("the next apprentice", x.apprentice(1, 1), 3);
        due("the next word", Check.word(x, "a"), 2);
        due("its told", x.of(3, 5), NONE);
        due("he is not hungry", x.of(3, 3), 0);
    }

    /** As many lines, words and letters as may be. */
    private void fullHouseIsKept() {
        CommaOrphans x = owned("abcdefghijklm", "nopqrstuvwxyz", ",.;");
        Check.law(x, "pay 1 when place<0;".repeat(15) + "pay 7;");
        for (int i = 0; i < 20; i++) {
            Check.word(x, "abcdefghijkl".substring(0, 11) + (char) ('a' + i));
        }
        Check.page(x, "a".repeat(60));
        x.set(1, 19, 1);
        String before = Witness.lasting(x);
        x.image(true);
        x.clear();
        for (int i = 0; i < 20; i++) {
            Check.word(x, "z".repeat(12));
        }
        Check.law(x, "pay 8;".repeat(16));
        Check.page(x, "b".repeat(60));
        due("another house", Witness.lasting(x).equals(before), false);
        x.image(false);
        due("as it was", Witness.lasting(x).equals(before), true);
        due("all words but the last", x.can(), (1 << 19) - 1);
        due("by the sixteenth line", x.pays(59), 7);
    }

    private void rollIsKept() {
        CommaOrphans x = owned("a", "b");
        Check.page(x, "a".repeat(50));
        for (int i = 0; i < 4; i++) {
            x.print();
        }
        x.image(true);
        for (int i = 0; i < 4; i++) {
            x.undo();
        }
        Check.page(x, "b".repeat(50));
        for (int i = 0; i < 4; i++) {
            x.print();
        }
        due("another roll", x.roll(0, 0) + x.roll(199, 0), 2);
        x.image(false);
        for (int i = 0; i < 200; i++) {
            due("line " + i, x.roll(i, 0), 0);
        }
    }

    private void butTheTape() {
        term("but the TAPE, fault() and what can be undone (nothing then)");
        CommaOrphans x = settled();
        Check.law(x, "pay 5/0;");
        Check.feed(x, "abc");
        due("two can be undone", x.look(8), 2);
        x.image(true);
        due("still two", x.look(8), 2);
        x.end(0);
        Check.law(x, "x");
        Check.feed(x, "cabc");
        x.print();
        x.image(false);
        due("nothing can be undone", x.look(8), 0);
        due("undo", x.undo(), false);
        due("the fault is the latest", x.fault(0), 1);
        due("and its place", x.fault(1), 0);
        due("the tape stays", x.end(4), true);
        due("no more is on it", x.end(5), false);
        due("it is a page", x.page(), 4);
        due("of the later bytes", x.at(0), 2);
        Check.law(x, "pay 1;");
        x.image(false);
        due("no fault either", x.fault(0), 0);
    }

    private void asItWasTaken() {
        term("as it was when it was taken");
        CommaOrphans x = settled();
        x.image(true);
        String first = Witness.lasting(x);
        x.undo();
        String undone = Witness.lasting(x);
        x.image(false);
        due("not as it was undone later", Witness.lasting(x).equals(undone), false);
        due("as it was taken", Witness.lasting(x).equals(first), true);
        changeAll(x);
        x.image(true);
        String second = Witness.lasting(x);
        x.set(4, 0, 1);
        x.image(false);
        due("the later image", Witness.lasting(x).equals(second), true);
    }

    private void moreThanOnce() {
        term("gone back to it may be more than once.");
        CommaOrphans x = settled();
        x.image(true);
        String before = Witness.lasting(x);
        for (int i = 0; i < 3; i++) {
            changeAll(x);
            due("gone back", x.image(false), true);
            due("as it was", Witness.lasting(x).equals(before), true);
            due("again at once", x.image(false), true);
            due("still as it was", Witness.lasting(x).equals(before), true);
        }
        Check.page(x, "ab");
        for (int pay = 3; pay < 6; pay++) {
            Check.law(x, "pay " + pay + ";");
            x.image(true);
            Check.law(x, "pay 9;");
            due("by another law", x.pays(0), 9);
            due("and in thought, where b is burnt", x.buy(0, 0), 9);
            x.image(false);
            due("by the law of the image", x.pays(0), pay);
            due("and in thought again", x.buy(0, 0), pay);
        }
    }

    private void image() {
        promise(27, "THE IMAGE is taken (true), or gone back to (false): true");
        CommaOrphans x = new CommaOrphans();
        due("of an empty house", x.image(true), true);
        x.apprentice(1, 1);
        due("gone back", x.image(false), true);
        due("empty again", x.look(0), 0);
        due("nobody", x.of(0, 0), NONE - 1);
        x.apprentice(2, 2);
        due("taken again", x.image(true), true);
        x.apprentice(3, 3);
        due("gone back again", x.image(false), true);
        due("one", x.look(0), 1);
        due("his purse", x.of(0, 0), 2);
    }

    private void imageRefused() {
        promise(27, "false if there is none.");
        CommaOrphans x = owned("a", "");
        Check.page(x, "a");
        x.print();
        due("none", x.image(false), false);
        due("nothing is done", x.look(0), 3);
        due("nothing is forgotten", x.look(8), 1);
        due("none still", x.image(false), false);
        x.image(true);
        due("one", x.image(false), true);
    }
}
