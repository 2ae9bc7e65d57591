import java.util.Arrays;

/** What is told in thought, and counts that were told falsely (promises 20 to 25). */
final class ThoughtEdges extends EdgeGroup {
    /* Between them they ask all that a law may ask, and join it in all ways. */
    private static final String[] LAWS = {"", "pay place*2+1;", "pay sign/3;", "pay long*long;", "pay 9-used*3;",
        "pay vowel*7+1;", "pay owner*4+2;", "pay day*3;", "pay left/4;", "pay first*6+1;", "pay 2*3+4/2-1;",
        "pay 12 when left=0 and first=0;pay 3*first when sign>1;pay 4;", "pay 6 when used=0;pay 0;",
        "pay 5 when owner=0 and sign>1;pay 5 when owner=1 and sign<2;pay 1;", "pay 9 when not long=2;", "pay 0;", "pay 0-sign;"};

    ThoughtEdges(Edges edges) {
        super(edges);
    }

    @Override
    void all() {
        nothingStays();
        earns();
        twoPlacesAtMost();
        twelveLongAtMost();
        anotherSign();
        whoMustEat();
        firstOfSeveral();
        fewest();
        fewestRefused();
        oneToThreeWords();
        oneBlankBetween();
        earnsMost();
        fewerWordsThenFirst();
        buy();
        buyRefused();
        canSet();
        can();
        lessByStrike();
        signsMore();
        hurts();
        hurtsOnStrike();
        hurtsRefused();
        unlikeOwners();
        bothEarnMore();
        firstCouple();
        swap();
        swapRefused();
        told();
        printedBeyondTheRoll();
        falseOnes();
        liars();
    }

    private void nothingStays() {
        term("IN THOUGHT (nothing of it stays, no MISPRINTS)");
        CommaOrphans x = house(3, 1);
        Check.own(x, "ab", 0);
        Check.own(x, "c", 1);
        Check.page(x, "abcz c");
        Check.word(x, "abc");
        Check.word(x, "c");
        x.print();
        x.set(0, 0, 1000);
        x.state(77);
        x.print();
        String before = Witness.of(x);
        for (int turn = 0; turn < 2; turn++) {
            due("earns, as if there were no jealousy", x.of(0, 6) + 10 * x.of(1, 6), 2 + 20);
            due("pays", x.pays(2), 1);
            due("fewest", x.fewest(0), 1);
            due("buy", x.buy(0, 0), 2);
            due("can", x.can(), 3);
            due("hurts", x.hurts(0, 0) + 10 * x.hurts(0, 1), 20);
            due("swap", x.swap(0), 0);
            due("liars", x.liars(), 0);
            due("all is as it was", Witness.of(x).equals(before), true);
        }
        due("what can be undone too", x.undo(), true);
    }

    private void earns() {
        term("EARNS: what an APPRENTICE gets by a row.");
        CommaOrphans x = owned("ab", "c");
        due("by an empty page", x.of(0, 6), 0);
        Check.page(x, "abca z");
        due("three signs", x.of(0, 6), 3);
        due("one", x.of(1, 6), 1);
        x.set(4, 0, 99998);
        due("his purse is not asked", x.of(0, 6), 3);
        x.set(1, 0, 1);
        due("nothing for a burnt one", x.of(0, 6), 1);
        x.set(3, 0, 1);
        due("nothing on strike", x.of(0, 6), 0);
        Check.page(x, "c".repeat(60));
        Check.law(x, "pay 500;");
        due("the most by a page", x.of(1, 6), 60 * 99);
    }

    private void fewest(String call, CommaOrphans x, int... want) {
        for (int what = 0; what < 5; what++) {
            due(call + ": fewest(" + what + ")", x.fewest(what), want[what]);
        }
    }

    private void noWay(String call, CommaOrphans x) {
        fewest(call, x, NONE, NONE, NONE, NONE, NONE);
    }

    private void twoPlacesAtMost() {
        term("FEWEST: fewest places (2 at most)");
        CommaOrphans x = house(0);
        Check.own(x, "b", 0);
        Check.page(x, "zzzb");
        fewest("needs none", x, 0, NONE, NONE, NONE, NONE);
        x.set(2, 0, 1);
        fewest("has one", x, 0, NONE, NONE, NONE, NONE);
        x.set(2, 0, 2);
        fewest("one place", x, 1, 0, 1, NONE, NONE);
        x.set(2, 0, 3);
        fewest("two places", x, 2, 0, 1, 1, 1);
        x.set(2, 0, 4);
        noWay("three places", x);
        x.set(2, 0, 99);
        noWay("many", x);
    }

    private void twelveLongAtMost() {
        term("of THE PAGE (12 long at most)");
        CommaOrphans x = house(1);
        Check.own(x, "b", 0);
        noWay("an empty page", x);
        Check.page(x, "z".repeat(12));
        fewest("12", x, 1, 0, 1, NONE, NONE);
        Check.page(x, "z" + " ".repeat(11));
        fewest("12 with blanks", x, 1, 0, 1, NONE, NONE);
        Check.page(x, " ".repeat(11) + "z");
        fewest("the last of 12", x, 1, 11, 1, NONE, NONE);
        Check.page(x, "z".repeat(13));
        noWay("13", x);
        Check.page(x, "z" + " ".repeat(12));
        noWay("13 with blanks", x);
        Check.page(x, "b".repeat(13));
        noWay("13 by which he eats", x);
        Check.page(x, "b".repeat(60));
        noWay("60", x);
        Check.page(x, " ".repeat(10) + "zz");
        x.set(2, 0, 2);
        fewest("the last two of 12", x, 2, 10, 1, 11, 1);
    }

    private void anotherSign() {
        term("at which another SIGN than is there (blanks stay) is set");
        CommaOrphans x = house(1);
        Check.own(x, "b;", 0);
        Check.page(x, "  ");
        noWay("blanks alone", x);
        Check.page(x, " z\n");
        fewest("the place that is none", x, 1, 1, 1, NONE, NONE);
        x.set(2, 0, 2);
        noWay("blanks stay", x);
        Check.page(x, "b");
        noWay("b for b is no other", x);
        Check.law(x, "pay 2 when sign=28;");
        fewest("a stop for a letter", x, 1, 0, 28, NONE, NONE);
        Check.page(x, ";");
        Check.law(x, "pay 2 when sign=1;");
        fewest("a letter for a stop", x, 1, 0, 1, NONE, NONE);
        CommaOrphans y = house(5);
        Check.own(y, "a", 0);
        Check.page(y, "za");
        Check.law(y, "pay 5 when first=1;pay 0;");
        fewest("a sign that nobody owns", y, 1, 0, 0, NONE, NONE);
        Check.law(y, "pay 5 when first=1 and place=1;pay 0;");
        fewest("a stop that nobody owns", y, 1, 0, 26, NONE, NONE);
    }

    private void whoMustEat() {
        term("so that each APPRENTICE who is not on STRIKE and OWNS some SIGN that is not BURNT EARNS his BREAD at least by it");
        CommaOrphans x = house(2, 1, 9);
        Check.own(x, "ab", 0);
        Check.own(x, "c", 1);
        Check.page(x, "abc");
        fewest("the third owns none", x, 0, NONE, NONE, NONE, NONE);
        x.own(25, 2);
        noWay("he owns one", x);
        x.set(1, 25, 1);
        fewest("it is burnt", x, 0, NONE, NONE, NONE, NONE);
        x.own(24, 2);
        noWay("another is not", x);
        x.set(3, 2, 1);
        fewest("he is on strike", x, 0, NONE, NONE, NONE, NONE);
        x.set(2, 1, 2);
        noWay("two for each on three places", x);
        x.set(2, 0, 1);
        fewest("just his bread", x, 1, 0, 2, NONE, NONE);
        x.set(4, 1, 99999);
        fewest("a full purse is no bread", x, 1, 0, 2, NONE, NONE);
        x.set(2, 1, 1);
        x.set(2, 0, 2);
        x.set(1, 0, 1);
        fewest("a burnt sign earns nothing, but he has another", x, 1, 0, 1, NONE, NONE);
        x.set(1, 1, 1);
        fewest("all of his are burnt", x, 0, NONE, NONE, NONE, NONE);
        fewestInDeed();
    }

    private void fewestInDeed() {
        int[][] breads = {{0, 1}, {3, 2}, {7, 0}, {9, 5}, {0, 13}, {18, 0}, {13, 8}, {99, 1}};
        for (String law : LAWS) {
            for (int[] bread : breads) {
                fewestInDeed(law, "azc,", bread);
                fewestInDeed(law, "b ca", bread);
            }
        }
    }

    /** In thought first: what was done in deed before might help it. */
    private void fewestInDeed(String law, String page, int[] bread) {
        CommaOrphans x = owned("ab.", "cd;", "e");
        x.set(1, 3, 1);
        x.day();
        Check.page(x, page);
        Check.law(x, law);
        x.set(2, 0, bread[0]);
        x.set(2, 1, bread[1]);
        int[] thought = new int[5];
        for (int what = 0; what < 5; what++) {
            thought[what] = x.fewest(what);
        }
        int[] done = new InDeed(x).fewest();
        for (int what = 0; what < 5; what++) {
            due(law + " '" + page + "' " + bread[0] + " " + bread[1] + ": " + what, thought[what], done[what]);
        }
    }

    private void firstOfSeveral() {
        term("of several the first (both places, then both SIGNS).");
        CommaOrphans x = house(5);
        Check.own(x, "abcde", 0);
        Check.page(x, "zzz");
        Check.law(x, "pay 5 when place=0 and sign=2;pay 5 when place=1;pay 0;");
        fewest("the place goes ahead of the sign", x, 1, 0, 2, NONE, NONE);
        Check.law(x, "pay 5 when place=1 and sign>1;pay 0;");
        fewest("the first sign", x, 1, 1, 2, NONE, NONE);
        x.set(2, 0, 10);
        String law = "pay 4 when place=0 and sign=0;pay 5 when place=0 and sign=1;pay 6 when place=0 and sign=2;"
            + "pay 4 when place=1 and sign=2;pay 5 when place=1 and sign>2;pay 6 when place=2 and sign=0;pay 0;";
        Check.law(x, law);
        fewest("both places, then both signs", x, 2, 0, 1, 1, 3);
        Check.law(x, "pay 5 when place>0;pay 0;");
        fewest("the later places", x, 2, 1, 0, 2, 0);
        Check.law(x, "pay 5 when place=0 or place=2;pay 0;");
        fewest("places that are not beside one another", x, 2, 0, 0, 2, 0);
        Check.page(x, "azz");
        Check.law(x, "pay 4 when place=0 and sign=0;pay 3 when place>0 and sign=0;pay 0;");
        fewest("the first place must stay", x, 2, 1, 0, 2, 0);
    }

    private void fewest() {
        promise(20, "FEWEST what 0 how many, 1, 3 the one, the other place, 2, 4 the SIGN there (NONE).");
        CommaOrphans x = house(2);
        Check.own(x, "c", 0);
        Check.page(x, "zz,");
        due("how many", x.fewest(0), 2);
        due("the one place", x.fewest(1), 0);
        due("the sign there", x.fewest(2), 2);
        due("the other place", x.fewest(3), 1);
        due("the sign there", x.fewest(4), 2);
        x.set(2, 0, 1);
        fewest("one", x, 1, 0, 2, NONE, NONE);
        x.set(2, 0, 0);
        fewest("none", x, 0, NONE, NONE, NONE, NONE);
    }

    private void fewestRefused() {
        promise(20, "NONE if there is no way, THE PAGE is longer than 12, or another what.");
        CommaOrphans x = house(1);
        Check.own(x, "c", 0);
        noWay("an empty page", x);
        Check.page(x, "c".repeat(13));
        noWay("13 long", x);
        Check.page(x, "c".repeat(12));
        fewest("12 long", x, 0, NONE, NONE, NONE, NONE);
        x.set(2, 0, 13);
        noWay("no way", x);
        x.set(2, 0, 12);
        for (int what : new int[] {5, -1, LEAST, MOST}) {
            due("fewest(" + what + ")", x.fewest(what), NONE);
        }
        fewest("in an empty house", new CommaOrphans(), 0, NONE, NONE, NONE, NONE);
    }

    private static CommaOrphans listed(CommaOrphans x, String... words) {
        x.clear();
        for (String word : words) {
            Check.word(x, word);
        }
        return x;
    }

    private void buys(CommaOrphans x, int... want) {
        for (int what = 0; what < 4; what++) {
            due("buy(0, " + what + ")", x.buy(0, what), want[what]);
        }
    }

    private void oneToThreeWords() {
        term("BUY: of all ways to take 1 to 3 unlike WORDS of THE LIST, by rising numbers");
        CommaOrphans x = owned("ab", "c");
        buys(listed(x, "a"), 1, 0, NONE, NONE);
        buys(listed(x, "a", "b"), 2, 0, 1, NONE);
        buys(listed(x, "a", "b", "a"), 3, 0, 1, 2);
        buys(listed(x, "a", "b", "a", "b"), 3, 0, 1, 2);
        buys(listed(x, "c", "a", "c", "b", "ab", "c"), 4, 1, 3, 4);
        String[] twenty = new String[20];
        Arrays.fill(twenty, "c");
        twenty[19] = "a";
        twenty[18] = "bb";
        twenty[17] = "a";
        buys(listed(x, twenty), 4, 17, 18, 19);
        Check.law(x, "pay 9 when place=2 and sign=1;pay 1;");
        buys(listed(x, "b", "a"), 2, 0, 1, NONE);
        buys(listed(x, "a", "b"), 10, 0, 1, NONE);
    }

    private void oneBlankBetween() {
        term("and set them with one blank between as a row");
        CommaOrphans x = owned("ab", "c");
        listed(x, "ab", "ca", "b");
        Check.law(x, "pay 9 when place=4 and sign=0;pay 0;");
        buys(x, 9, 0, 1, NONE);
        Check.law(x, "pay 9 when place=6 and sign=1;pay 0;");
        buys(x, 9, 0, 1, 2);
        Check.law(x, "pay 1 when left=29;pay 0;");
        buys(x, 2, 0, 2, NONE);
        Check.law(x, "pay long;");
        buys(x, 2 + 2 + 2 + 1, 0, 1, 2);
        Check.law(x, "pay 5 when used=1 and sign=1;pay 0;");
        buys(x, 5, 0, 2, NONE);
        Check.law(x, "pay first;");
        buys(x, 2, 0, 2, NONE);
        CommaOrphans y = house(0);
        Check.own(y, "a", 0);
        listed(y, "a".repeat(12), "a".repeat(12), "a".repeat(12));
        Check.law(y, "pay 7 when place=37;pay 0;");
        buys(y, 7, 0, 1, 2);
        Check.law(y, "pay 7 when place>37;pay 0;");
        buys(y, 0, 0, NONE, NONE);
    }

    private void earnsMost() {
        term("that by which an APPRENTICE EARNS most");
        CommaOrphans x = owned("ab", "c");
        listed(x, "c", "cc", "ca", "b", "z");
        buys(x, 2, 2, 3, NONE);
        due("the other", x.buy(1, 0), 4);
        due("his words", x.buy(1, 1) + 10 * x.buy(1, 2) + 100 * x.buy(1, 3), 0 + 10 + 200);
        due("the first again", x.buy(0, 0), 2);
        x.set(1, 0, 1);
        buys(x, 1, 3, NONE, NONE);
        x.set(3, 0, 1);
        buys(x, 0, 0, NONE, NONE);
        x.set(3, 0, 0);
        x.set(4, 0, 99999);
        buys(x, 1, 3, NONE, NONE);
        buysInDeed();
    }

    private void buysInDeed() {
        String[] words = {"c", "abca", "zz", "bb", "dca", "aaab", "bed"};
        CommaOrphans x = listed(owned("ab", "cd", "e"), words);
        x.set(1, 3, 1);
        x.day();
        for (String law : LAWS) {
            Check.law(x, law);
            for (int a = 0; a < 3; a++) {
                int[] want = new InDeed(x).buy(a, words);
                for (int what = 0; what < 4; what++) {
                    due(law + " buy(" + a + ", " + what + ")", x.buy(a, what), want[what]);
                }
            }
        }
    }

    private void fewerWordsThenFirst() {
        term("of several the one with fewer WORDS, then the first (by numbers).");
        CommaOrphans x = owned("ab", "c");
        buys(listed(x, "c", "a", "c"), 1, 1, NONE, NONE);
        buys(listed(x, "c", "c"), 0, 0, NONE, NONE);
        Check.law(x, "pay 1 when used=0;pay 0;");
        buys(listed(x, "a", "a", "a"), 1, 0, NONE, NONE);
        buys(listed(x, "c", "b", "a", "b", "a"), 2, 1, 2, NONE);
        buys(listed(x, "a", "b", "ab"), 2, 2, NONE, NONE);
        Check.law(x, "pay 1 when place<3;pay 0;");
        buys(listed(x, "a", "a", "b", "bb"), 2, 3, NONE, NONE);
        Check.law(x, "pay 1 when place=0 or place=2 or place=4;pay 0;");
        buys(listed(x, "a", "b", "a", "bbb"), 3, 0, 3, NONE);
    }

    private void buy() {
        promise(21, "BUY for an APPRENTICE what 0 what he EARNS, 1 .. 3 the WORDS (NONE).");
        CommaOrphans x = owned("ab", "c");
        listed(x, "c", "ab", "c", "b");
        due("what he earns", x.buy(0, 0), 3);
        due("the one", x.buy(0, 1), 1);
        due("the other", x.buy(0, 2), 3);
        due("no third", x.buy(0, 3), NONE);
        Check.word(x, "a");
        due("a third", x.buy(0, 3), 4);
        due("who owns none earns 0", x.buy(2, 0), 0);
        due("the first word", x.buy(2, 1), 0);
        due("no other", x.buy(2, 2) + x.buy(2, 3), 2 * NONE);
    }

    private void buyRefused() {
        promise(21, "NONE if one can't be, THE LIST is empty, or another what.");
        CommaOrphans x = owned("ab", "c");
        for (int what = 0; what < 4; what++) {
            due("an empty list, " + what, x.buy(0, what), NONE);
        }
        Check.word(x, "ab");
        due("one word", x.buy(0, 0), 2);
        for (int who : new int[] {3, 8, -1, LEAST, MOST}) {
            due("buy(" + who + ", 0)", x.buy(who, 0), NONE);
            due("buy(" + who + ", 1)", x.buy(who, 1), NONE);
        }
        for (int what : new int[] {4, -1, LEAST, MOST}) {
            due("buy(0, " + what + ")", x.buy(0, what), NONE);
        }
        x.clear();
        due("cleared", x.buy(0, 0), NONE);
    }

    private void canSet() {
        term("CAN: the set of WORDS of THE LIST of which all letters can be PRINTED.");
        CommaOrphans x = owned("ab", "c");
        listed(x, "ab", "abz", "z", "c", "cab", "zab", "azb");
        due("0, 3, 4", x.can(), 1 + 8 + 16);
        x.set(1, 1, 1);
        due("b burnt", x.can(), 8);
        x.set(1, 1, 0);
        x.set(3, 1, 1);
        due("strike", x.can(), 1);
        x.own(25, 0);
        due("z is owned", x.can(), 1 + 2 + 4 + 32 + 64);
        x.own(25, 1);
        due("by one on strike", x.can(), 1);
    }

    private void can() {
        promise(22, "CAN.");
        CommaOrphans x = owned("a", "");
        due("an empty list", x.can(), 0);
        for (int i = 0; i < 20; i++) {
            Check.word(x, i % 19 == 0 ? "a".repeat(12) : "a".repeat(11 - i % 11) + "z");
        }
        due("the first and the last", x.can(), 1 + (1 << 19));
        x.own(25, 0);
        due("all twenty", x.can(), (1 << 20) - 1);
    }

    private void lessByStrike() {
        term("HURTS: if an APPRENTICE were on STRIKE: by how much less all others together EARN by THE PAGE (it may be below 0)");
        CommaOrphans x = owned("ab", "c", ",");
        Check.page(x, "abc,cz a");
        due("what others earn stays", x.hurts(0, 0), 0);
        Check.law(x, "pay long*2;");
        due("c in abc earns less", x.hurts(0, 0), 2 * 2);
        due("a and b in abc earn less", x.hurts(1, 0), 2 * 2);
        due("stops are in no word", x.hurts(2, 0), 0);
        Check.law(x, "pay left;");
        due("c and comma: 1 and 2 once, 29 then for c", x.hurts(0, 0), 1 - 29);
        due("a comma and a c", x.hurts(1, 0), 2 - 29);
        x.set(3, 2, 1);
        due("he on strike earns nothing", x.hurts(1, 0), 0);
        hurtsInDeed(0);
    }

    private void hurtsInDeed(int what) {
        for (String law : LAWS) {
            CommaOrphans x = owned("ab.", "cd;", "e");
            x.set(1, 3, 1);
            x.day();
            Check.page(x, "abcd;.ec, zae;;ab");
            Check.law(x, law);
            for (int a = 0; a < 3; a++) {
                due(law + " hurts(" + a + ", " + what + ")", x.hurts(a, what), new InDeed(x).hurts(a)[what]);
            }
        }
    }

    private void signsMore() {
        term("and how many SIGNS of THE PAGE more could not be PRINTED.");
        CommaOrphans x = owned("ab", "c");
        Check.page(x, "abcb ,zc");
        due("a, b, b", x.hurts(0, 1), 3);
        due("c, c", x.hurts(1, 1), 2);
        due("who owns none", x.hurts(2, 1), 0);
        x.set(1, 1, 1);
        due("burnt ones could not before", x.hurts(0, 1), 1);
        x.page();
        due("an empty page", x.hurts(0, 1), 0);
        Check.page(x, "c".repeat(60));
        due("sixty", x.hurts(1, 1), 60);
        hurtsInDeed(1);
    }

    private void hurts() {
        promise(23, "HURTS what 0 by how much less, 1 how many SIGNS more");
        CommaOrphans x = owned("a", "b");
        Check.page(x, "ab");
        Check.law(x, "pay 2*long+5 when left<29;pay long;");
        due("by how much less", x.hurts(0, 0), 9 - 1);
        due("the other's", x.hurts(1, 0), 2 - 1);
        due("how many", x.hurts(0, 1), 1);
    }

    private void hurtsOnStrike() {
        promise(23, "(0 and 0, if he is on STRIKE).");
        CommaOrphans x = owned("a", "b");
        Check.page(x, "abab");
        Check.law(x, "pay long;");
        due("less", x.hurts(0, 0), 4);
        due("more", x.hurts(0, 1), 2);
        x.set(3, 0, 1);
        due("less on strike", x.hurts(0, 0), 0);
        due("more on strike", x.hurts(0, 1), 0);
        due("the other", x.hurts(1, 1), 2);
    }

    private void hurtsRefused() {
        promise(23, "NONE - 99999 if one can't be, or another what.");
        CommaOrphans x = owned("a", "b");
        x.set(3, 0, 1);
        for (int who : new int[] {3, 8, -1, LEAST, MOST}) {
            due("hurts(" + who + ", 0)", x.hurts(who, 0), -100000);
            due("hurts(" + who + ", 1)", x.hurts(who, 1), -100000);
        }
        for (int what : new int[] {2, -1, LEAST, MOST}) {
            due("hurts(1, " + what + ")", x.hurts(1, what), -100000);
            due("on strike, hurts(0, " + what + ")", x.hurts(0, what), -100000);
        }
        due("in an empty house", new CommaOrphans().hurts(0, 0), -100000);
    }

    private void swaps(String call, CommaOrphans x, int count, int a, int b) {
        due(call + ": how many", x.swap(0), count);
        due(call + ": the one", x.swap(1), a);
        due(call + ": the other", x.swap(2), b);
    }

    private void unlikeOwners() {
        term("SWAP: couples of SIGNS (a below b) of unlike OWNERS");
        CommaOrphans x = owned("a", "c");
        Check.page(x, "abc");
        Check.law(x, "pay 9 when sign=0 and owner=1 or sign=2 and owner=0 or sign=1 and owner>7;pay 1;");
        swaps("a and c", x, 1, 0, 2);
        x.own(2, 0);
        swaps("both are one's", x, 0, NONE, NONE);
        x.own(2, NONE);
        swaps("c is nobody's", x, 0, NONE, NONE);
        CommaOrphans y = owned("c", "a");
        Check.page(y, "ca");
        Check.law(y, "pay 9 when sign=0 and owner=0 or sign=2 and owner=1;pay 1;");
        swaps("each couple once, the lesser sign first", y, 1, 0, 2);
    }

    private void bothEarnMore() {
        term("such that, if these changed hands, both EARN more by THE PAGE: how many");
        CommaOrphans x = owned("ab", "c.");
        Check.page(x, "abc.");
        swaps("without a law nobody earns more", x, 0, NONE, NONE);
        Check.law(x, "pay 2 when owner=1 and sign=0;pay 1;");
        swaps("one alone earns more", x, 0, NONE, NONE);
        Check.law(x, "pay 2 when owner=1 and sign=0;pay 2 when owner=0 and sign=27;pay 1;");
        swaps("both earn one more", x, 1, 0, 27);
        Check.law(x, "pay 3 when owner=1 and sign<2;pay 3 when owner=0 and sign>1;pay 1;");
        swaps("each of two with each of two", x, 4, 0, 2);
        x.set(1, 2, 1);
        swaps("c is burnt", x, 2, 0, 27);
        x.set(3, 0, 1);
        swaps("one on strike earns nothing", x, 0, NONE, NONE);
        x.set(3, 0, 0);
        Check.page(x, "ab");
        swaps("what is not on the page earns nothing", x, 0, NONE, NONE);
        swapsInDeed();
    }

    private void swapsInDeed() {
        for (String law : LAWS) {
            CommaOrphans x = owned("ab.", "cd;", "e");
            x.day();
            Check.page(x, "abcd;.ec, zae;;ab");
            Check.law(x, law);
            for (int turn = 0; turn < 3; turn++) {
                int[] want = new InDeed(x).swap();
                swaps(law + " turn " + turn, x, want[0], want[1], want[2]);
                x.set(turn == 0 ? 1 : 3, 2, 1);
            }
        }
    }

    private void firstCouple() {
        term("the first (a, then b).");
        CommaOrphans x = owned("be", "dc");
        Check.page(x, "bcde");
        Check.law(x, "pay 3 when owner=1 and (sign=1 or sign=4) or owner=0 and (sign=2 or sign=3);pay 1;");
        swaps("b and c", x, 4, 1, 2);
        Check.law(x, "pay 3 when owner=1 and sign=4 or owner=0 and (sign=2 or sign=3);pay 1;");
        swaps("c and e", x, 2, 2, 4);
        Check.law(x, "pay 3 when owner=1 and (sign=1 or sign=4) or owner=0 and sign=3;pay 1;");
        swaps("b and d", x, 2, 1, 3);
    }

    private void swap() {
        promise(24, "SWAP what 0 how many, 1, 2 the SIGNS of the first (NONE).");
        CommaOrphans x = owned("a", ";");
        due("none", x.swap(0), 0);
        due("no sign", x.swap(1) + x.swap(2), 2 * NONE);
        Check.page(x, "a;");
        Check.law(x, "pay 5 when sign=0 and owner=1 or sign=28 and owner=0;");
        due("one", x.swap(0), 1);
        due("a", x.swap(1), 0);
        due("semicolon", x.swap(2), 28);
    }

    private void swapRefused() {
        promise(24, "NONE for another what.");
        CommaOrphans x = owned("a", ";");
        for (int what : new int[] {3, 4, -1, LEAST, MOST}) {
            due("swap(" + what + ")", x.swap(what), NONE);
        }
    }

    private void told() {
        term("TOLD: how often an APPRENTICE says his SIGNS were printed so far (a number or none; none at first)");
        CommaOrphans x = owned("a", "b");
        Check.page(x, "aab");
        x.print();
        due("none at first", x.of(0, 5), NONE);
        due("none told, none false", x.liars(), 0);
        x.set(5, 0, 2);
        due("two", x.of(0, 5), 2);
        x.print();
        due("what was told stays", x.of(0, 5), 2);
        due("it is false by now", x.liars(), 1);
        x.set(5, 0, NONE);
        due("none again", x.of(0, 5), NONE);
        due("then it is not false", x.liars(), 0);
    }

    private void printedBeyondTheRoll() {
        term("PRINTED: how often a SIGN was (also beyond THE ROLL).");
        CommaOrphans x = owned("a", "b");
        Check.page(x, "ab".repeat(30));
        for (int i = 1; i <= 5; i++) {
            x.print();
            due("a after " + i, x.sign(0, 2), 30 * i);
            due("b after " + i, x.sign(1, 2), 30 * i);
        }
        due("the roll", x.look(3), 200);
        x.set(5, 0, 150);
        x.set(5, 1, 100);
        due("told by the roll is false", x.liars(), 2);
    }

    private void falseOnes() {
        term("FALSE: the set of those who told another number than PRINTED of the SIGNS that they OWN now, added.");
        CommaOrphans x = owned("ab", "c", ",");
        Check.page(x, "abcab,");
        x.print();
        x.set(5, 0, 4);
        x.set(5, 1, 1);
        x.set(5, 2, 0);
        due("the third", x.liars(), 4);
        x.own(1, 2);
        due("b is the third's now", x.liars(), 1 + 4);
        x.set(5, 2, 3);
        due("b and comma", x.liars(), 1);
        x.set(5, 0, 2);
        due("a alone", x.liars(), 0);
        x.own(2, NONE);
        due("c is nobody's", x.liars(), 2);
        x.set(5, 1, 0);
        due("who owns none: 0", x.liars(), 0);
        x.set(1, 0, 1);
        x.set(3, 0, 1);
        due("burnt, on strike: was printed so far", x.liars(), 0);
    }

    private void liars() {
        promise(25, "FALSE.");
        CommaOrphans x = house(0, 0, 0, 0, 0, 0, 0, 0);
        due("none told", x.liars(), 0);
        for (int a = 0; a < 8; a++) {
            x.set(5, a, 0);
        }
        due("all told 0", x.liars(), 0);
        for (int a = 0; a < 8; a++) {
            x.set(5, a, 99999);
            due("false up to " + a, x.liars(), (2 << a) - 1);
        }
        due("an empty house", new CommaOrphans().liars(), 0);
    }
}
