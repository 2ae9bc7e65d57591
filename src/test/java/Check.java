import java.nio.charset.StandardCharsets;

/** What the tests share: answers that are due, and texts that are fed to a house. */
final class Check {
    private final String name;
    private int asked;
    private int wrong;

    Check(String name) {
        this.name = name;
    }

    void due(String call, long got, long want) {
        asked++;
        if (got != want) {
            wrong++;
            System.out.println(name + ": " + call + " answered " + got + ", due is " + want);
        }
    }

    void due(String call, boolean got, boolean want) {
        due(call, got ? 1 : 0, want ? 1 : 0);
    }

    int wrong() {
        return wrong;
    }

    void close() {
        System.out.println(name + ": " + asked + " answers, " + wrong + " not as due");
        if (asked == 0 || wrong != 0) {
            System.exit(1);
        }
    }

    /** Puts a text behind the tape of a house, as many bytes as it has. */
    static void feed(CommaOrphans house, String text) {
        byte[] bytes = text.getBytes(StandardCharsets.ISO_8859_1);
        int[] fives = new int[(bytes.length + 19) / 20 * 5];
        for (int i = 0; i < bytes.length; i++) {
            fives[i / 4] |= (bytes[i] & 255) << 24 - i % 4 * 8;
        }
        int has = 0;
        for (int i = 0; i < fives.length; i += 5) {
            int now = house.feed(fives[i], fives[i + 1], fives[i + 2], fives[i + 3], fives[i + 4]);
            has = i == 0 ? now - 20 : has;
        }
        house.end(has + bytes.length);
    }

    static int law(CommaOrphans house, String text) {
        feed(house, text);
        return house.text();
    }

    static int page(CommaOrphans house, String text) {
        feed(house, text);
        return house.page();
    }

    static int word(CommaOrphans house, String text) {
        feed(house, text);
        return house.word();
    }

    /** Gives each sign of a text (a .. z , . ;) to an apprentice. */
    static void own(CommaOrphans house, String signs, int apprentice) {
        for (int i = 0; i < signs.length(); i++) {
            house.own("abcdefghijklmnopqrstuvwxyz,.;".indexOf(signs.charAt(i)), apprentice);
        }
    }
}
