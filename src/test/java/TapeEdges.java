/** The tape, and what becomes of it: the page and the list of words (promises 6, 7, 10 to 12). */
final class TapeEdges extends EdgeGroup {
    private static final int FOUR_A = 0x61616161;

    TapeEdges(Edges edges) {
        super(edges);
    }

    @Override
    void all() {
        feedHighestFirst();
        feedTooMany();
        end();
        endRefused();
        pageSixty();
        pageEmptyAtFirst();
        pageBytes();
        pageIsTape();
        pageRefused();
        pageStays();
        listBounds();
        word();
        wordRefused();
        clear();
    }

    private static int feedA(CommaOrphans x) {
        return x.feed(FOUR_A, FOUR_A, FOUR_A, FOUR_A, FOUR_A);
    }

    private void feedHighestFirst() {
        promise(6, "Twenty bytes come behind the TAPE, of each number the highest first: how many it has.");
        CommaOrphans x = new CommaOrphans();
        due("twenty", x.feed(0x61626364, 0x65666768, 0x696a6b6c, 0x6d6e6f70, 0x71727374), 20);
        due("forty", x.feed(0x7a797877, 0x76757473, 0x7271706f, 0x6e6d6c6b, 0x6a696867), 40);
        due("all of them are a page", x.page(), 40);
        for (int i = 0; i < 20; i++) {
            due("the first ones rise: " + i, x.at(i), i);
            due("those behind fall: " + i, x.at(20 + i), 25 - i);
        }
        due("from the first again", feedA(x), 20);
        x.end(0);
        due("bytes have no sign", x.feed(0xe1e1e1e1, 0, 0, 0, 0), 20);
        due("225 is no letter", x.page(), NONE);
    }

    private void feedTooMany() {
        promise(6, "NONE, and nothing comes, if there would be more than 400.");
        CommaOrphans x = new CommaOrphans();
        for (int n = 20; n <= 400; n += 20) {
            due("as many as", feedA(x), n);
        }
        due("420", feedA(x), NONE);
        due("none came: 401", x.end(401), false);
        due("all are there: 400", x.end(400), true);
        x.end(381);
        due("401", x.feed(0, 0, 0, 0, 0), NONE);
        due("nothing came", x.end(382), false);
        due("nothing went", x.end(381), true);
        x.end(380);
        due("400", feedA(x), 400);
    }

    private void end() {
        promise(7, "The TAPE has its first n bytes alone: true");
        CommaOrphans x = new CommaOrphans();
        due("none of none", x.end(0), true);
        x.feed(0x61626364, 0x65666768, 0, 0, 0);
        due("all of them", x.end(20), true);
        due("three", x.end(3), true);
        due("three again", x.end(3), true);
        due("others come behind", x.feed(0x7a7a7a7a, 0, 0, 0, 0), 23);
        due("four", x.end(4), true);
        due("a page of four", x.page(), 4);
        due("the third stayed", x.at(2), 2);
        due("the fourth came later", x.at(3), 25);
        feedA(x);
        due("none of twenty", x.end(0), true);
        due("an empty tape", x.page(), 0);
        cut("pay 1    ", 5, 5);
        cut("pay sign;", 7, 4);
        cut("pay 123456;", 8, 8);
        cut("pay 1;pay 2;", 10, 10);
    }

    /** What was behind the end of a text does not stand in it. */
    private void cut(String text, int n, int place) {
        CommaOrphans x = new CommaOrphans();
        Check.feed(x, text);
        due("the first " + n + " of '" + text + "'", x.end(n), true);
        due("are no law", x.text(), NONE);
        due("the fault's place", x.fault(1), place);
    }

    private void endRefused() {
        promise(7, "false, changing nothing, if it has not so many, or n is below 0.");
        CommaOrphans x = new CommaOrphans();
        due("one of none", x.end(1), false);
        due("below, of none", x.end(-1), false);
        feedA(x);
        due("21 of 20", x.end(21), false);
        due("the most int", x.end(MOST), false);
        due("-1", x.end(-1), false);
        due("the least int", x.end(LEAST), false);
        due("twenty are there", feedA(x), 40);
        due("a page of forty", x.page(), 40);
    }

    private void pageSixty() {
        term("THE PAGE: a row of 60 at most");
        CommaOrphans x = new CommaOrphans();
        due("59", Check.page(x, "ab ".repeat(19) + "ab"), 59);
        due("60", Check.page(x, "ab ".repeat(20)), 60);
        due("61, blanks too", Check.page(x, "ab ".repeat(20) + " "), NONE - 60);
        due("still 60", x.look(1), 60);
    }

    private void pageEmptyAtFirst() {
        term("each a SIGN or a blank (empty at first)");
        CommaOrphans x = new CommaOrphans();
        due("at first", x.look(1), 0);
        due("nothing at 0", x.at(0), NONE);
        due("blanks are places too", Check.page(x, " a  "), 4);
        due("a blank first", x.at(0), 29);
        due("a blank last", x.at(3), 29);
    }

    private void pageBytes() {
        term("told by bytes: a .. z, comma, point, semicolon, blank (32, also 10).");
        for (int b = 0; b < 256; b++) {
            CommaOrphans x = new CommaOrphans();
            int sign = "abcdefghijklmnopqrstuvwxyz,.; \n".indexOf((char) b);
            int length = Check.page(x, "a" + (char) b);
            due("byte " + b, length, sign >= 0 ? 2 : NONE - 1);
            due("byte " + b + " on the page", x.at(1), Math.min(sign, 29));
        }
    }

    private void pageIsTape() {
        promise(10, "The TAPE, empty then, is THE PAGE: how long it is.");
        CommaOrphans x = new CommaOrphans();
        due("an empty tape", x.page(), 0);
        due("three", Check.page(x, "ab,"), 3);
        due("the tape is empty", x.end(1), false);
        due("three places", x.look(1), 3);
        due("the whole page is new", Check.page(x, "z"), 1);
        due("one place", x.look(1), 1);
        due("the sign", x.at(0), 25);
        due("empty again", x.page(), 0);
        due("no place", x.look(1), 0);
    }

    private void pageRefused() {
        promise(10, "Less than 0: NONE less the place of the first byte that can't stand there (61 long: at the 61st)");
        CommaOrphans x = new CommaOrphans();
        due("the first byte", Check.page(x, "Ab"), -1);
        due("the second", Check.page(x, "aBc"), -2);
        due("the last", Check.page(x, "ab" + (char) 0), -3);
        due("the first of two", Check.page(x, "ab!cd!"), -3);
        due("the 60th", Check.page(x, "a".repeat(59) + "!"), -60);
        due("the 61st is a letter", Check.page(x, "a".repeat(61)), -61);
        due("the 61st is none", Check.page(x, "a".repeat(60) + "!"), -61);
        due("the 61st is a blank", Check.page(x, "a".repeat(60) + " "), -61);
        due("one ahead of the 61st", Check.page(x, "a".repeat(30) + "!" + "a".repeat(30)), -31);
        due("one behind the 61st", Check.page(x, "a".repeat(70) + "!"), -61);
        due("400 long", Check.page(x, "a".repeat(400)), -61);
        due("the tape is empty", x.end(1), false);
    }

    private void pageStays() {
        promise(10, "THE PAGE stays then.");
        CommaOrphans x = owned("ab", "");
        Check.page(x, "a,b");
        for (String wrong : new String[] {"bB", "!", "a".repeat(61)}) {
            due("refused", Check.page(x, wrong) < 0, true);
            due("three long", x.look(1), 3);
            due("its signs", x.at(0) + 100 * x.at(1) + 10000 * x.at(2), 0 + 2600 + 10000);
            due("earns by it", x.of(0, 6), 2);
        }
    }

    private void listBounds() {
        term("WORDS of THE LIST 0 .. 19: rows of 1 to 12 letters.");
        CommaOrphans x = house(0);
        Check.own(x, "az", 0);
        due("none of no letters", x.word(), NONE);
        due("one letter", Check.word(x, "a"), 0);
        due("twelve", Check.word(x, "z".repeat(12)), 1);
        due("thirteen", Check.word(x, "z".repeat(13)), NONE);
        for (int i = 2; i < 20; i++) {
            due("number " + i, Check.word(x, "a"), i);
        }
        due("no number 20", Check.word(x, "a"), NONE);
        due("all twenty stay", x.can(), (1 << 20) - 1);
        due("of one and twelve letters", x.buy(0, 0), 1 + 12 + 1);
    }

    private void word() {
        promise(11, "The TAPE, empty then, is one WORD more of THE LIST (letters alone): its number");
        CommaOrphans x = owned("ab", "c");
        due("the first", Check.word(x, "abc"), 0);
        due("the tape is empty", x.end(1), false);
        due("a second", Check.word(x, "z"), 1);
        due("the same again is one more", Check.word(x, "abc"), 2);
        due("three", x.look(2), 3);
        due("their letters", x.can(), 1 + 4);
        for (int b = 0; b < 256; b++) {
            CommaOrphans y = new CommaOrphans();
            due("a and byte " + b, Check.word(y, "a" + (char) b), b >= 'a' && b <= 'z' ? 0 : NONE);
        }
    }

    private void wordRefused() {
        promise(11, "NONE if it can't be, or there are twenty.");
        CommaOrphans x = new CommaOrphans();
        for (String wrong : new String[] {"", "abcdefghijklm", "a b", "ab ", " ab", "a,", "A", "a1", "a\n", "a".repeat(400)}) {
            due("'" + wrong + "'", Check.word(x, wrong), NONE);
            due("the tape is empty", x.end(1), false);
            due("none came", x.look(2), 0);
        }
        for (int i = 0; i < 20; i++) {
            due("number " + i, Check.word(x, "ab"), i);
            due("not one more", Check.word(x, "a!") + Check.word(x, "") + Check.word(x, "a".repeat(13)), 3 * NONE);
        }
        due("the twenty-first", Check.word(x, "ab"), NONE);
        due("the tape is empty then too", x.end(1), false);
        due("still twenty", x.look(2), 20);
        due("one that can't be", Check.word(x, "!"), NONE);
        x.clear();
        due("after a clear", Check.word(x, "ab"), 0);
    }

    private void clear() {
        promise(12, "THE LIST is empty then: how many WORDS it had.");
        CommaOrphans x = owned("ab", "");
        due("none", x.clear(), 0);
        for (int i = 0; i < 20; i++) {
            Check.word(x, "ab");
        }
        due("he would buy", x.buy(0, 0), 6);
        due("twenty", x.clear(), 20);
        due("empty", x.look(2), 0);
        due("nothing can be printed", x.can(), 0);
        due("nothing to buy", x.buy(0, 0), NONE);
        due("none again", x.clear(), 0);
        due("from 0 again", Check.word(x, "c"), 0);
        due("c alone", x.can(), 0);
    }
}
