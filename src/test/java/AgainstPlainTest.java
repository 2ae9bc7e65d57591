import java.nio.charset.StandardCharsets;
import java.util.Random;

/** Runs of calls drawn from fixed seeds: CommaOrphans must answer as the plainest telling of the document does. */
public final class AgainstPlainTest {
    private static final int RUNS = 1500;
    private static final int CALLS = 480;
    private static final String SIGNS = "abcdefghijklmnopqrstuvwxyz,.;";

    private final Check check;
    private final Random random;
    private final int run;
    private final CommaOrphans x = new CommaOrphans();
    private final PlainHouse y = new PlainHouse();
    private final String letters;
    private final int pageMost;
    private int calls;
    private int thoughts;

    private AgainstPlainTest(Check check, int run) {
        this.check = check;
        this.run = run;
        random = new Random(run * 7919L + 11);
        int used = 2 + random.nextInt(random.nextBoolean() ? 8 : 26);
        int from = random.nextInt(29 - used);
        letters = SIGNS.substring(from, from + used) + (random.nextBoolean() ? "ae,.;" : "");
        pageMost = random.nextInt(3) == 0 ? 62 : 3 + random.nextInt(10);
    }

    public static void main(String[] args) {
        Check check = new Check("AgainstPlainTest");
        for (int run = 0; run < RUNS && check.wrong() == 0; run++) {
            new AgainstPlainTest(check, run).goOn();
        }
        check.close();
    }

    private void same(String call, long got, long want) {
        calls++;
        check.due("run " + run + ", call " + calls + ": " + call, got, want);
    }

    private void same(String call, boolean got, boolean want) {
        same(call, got ? 1 : 0, want ? 1 : 0);
    }

    private int upTo(int most) {
        return random.nextInt(most + 1);
    }

    /** Mostly one that can be, sometimes one just beside it or far off. */
    private int near(int least, int most) {
        switch (random.nextInt(40)) {
            case 0: return least - 1;
            case 1: return most + 1;
            case 2: return random.nextInt();
            case 3: return most;
            case 4: return least;
            case 5: return random.nextBoolean() ? Integer.MIN_VALUE : Integer.MAX_VALUE;
            default: return least + random.nextInt(most - least + 1);
        }
    }

    private int man() {
        return near(0, Math.max(0, y.now.men.size() - 1));
    }

    private void goOn() {
        int men = upTo(8);
        for (int i = 0; i < men; i++) {
            addMan();
        }
        for (int i = 0; i < letters.length() && men > 0; i++) {
            int sign = SIGNS.indexOf(letters.charAt(i));
            int a = upTo(men) - 1;
            same("own", x.own(sign, a), y.own(sign, a));
        }
        for (int i = 0; i < 6; i++) {
            tell();
        }
        while (calls < CALLS && check.wrong() == 0) {
            int which = random.nextInt(100);
            if (which < 12) {
                tell();
            } else if (which < 24) {
                change();
            } else if (which < 36) {
                print();
            } else if (which < 40) {
                back();
            } else {
                ask();
            }
        }
        askAll();
    }

    private void addMan() {
        int purse = random.nextInt(6) == 0 ? near(99900, 99999) : near(0, 60);
        int bread = random.nextInt(5) == 0 ? near(0, 99) : near(0, 4);
        same("apprentice", x.apprentice(purse, bread), y.apprentice(purse, bread));
    }

    /** Any bytes, mostly near those that may stand; what is on the tape then goes ahead of what is told next. */
    private String junk() {
        StringBuilder row = new StringBuilder();
        int length = upTo(random.nextInt(4) == 0 ? 400 : 30);
        for (int i = 0; i < length; i++) {
            row.append((char) (random.nextInt(4) == 0 ? upTo(255) : " \nab,.;()1<".charAt(upTo(10))));
        }
        return row.toString();
    }

    private void tell() {
        if (random.nextInt(25) == 0) {
            feed(junk());
        }
        switch (random.nextInt(4)) {
            case 0:
                feed(random.nextInt(8) == 0 ? "" : law());
                same("text", x.text(), y.text());
                same("fault(0)", x.fault(0), y.fault(0));
                same("fault(1)", x.fault(1), y.fault(1));
                break;
            case 1:
                feed(page());
                same("page", x.page(), y.page());
                break;
            default:
                feed(word());
                same("word", x.word(), y.word());
                break;
        }
    }

    private void feed(String text) {
        byte[] bytes = text.getBytes(StandardCharsets.ISO_8859_1);
        for (int i = 0; i < bytes.length; i += 20) {
            int[] v = new int[5];
            for (int j = i; j < Math.min(bytes.length, i + 20); j++) {
                v[(j - i) / 4] |= (bytes[j] & 255) << 24 - (j - i) % 4 * 8;
            }
            same("feed", x.feed(v[0], v[1], v[2], v[3], v[4]), y.feed(v[0], v[1], v[2], v[3], v[4]));
        }
        int n = random.nextInt(30) == 0 ? near(0, 400) : bytes.length;
        same("end(" + n + ")", x.end(n), y.end(n));
    }

    private String page() {
        StringBuilder row = new StringBuilder();
        int length = upTo(pageMost);
        for (int i = 0; i < length; i++) {
            int which = random.nextInt(40);
            row.append(which < 4 ? ' ' : which == 5 ? '\n' : which == 6 && random.nextInt(20) == 0 ? '!'
                : which < 9 ? SIGNS.charAt(upTo(28)) : letters.charAt(random.nextInt(letters.length())));
        }
        return row.toString();
    }

    private String word() {
        StringBuilder row = new StringBuilder();
        int length = 1 + random.nextInt(random.nextInt(10) == 0 ? 13 : 5);
        for (int i = 0; i < length; i++) {
            char c = letters.charAt(random.nextInt(letters.length()));
            row.append(c >= 'a' || random.nextInt(30) == 0 ? c : (char) ('a' + upTo(25)));
        }
        return row.toString();
    }

    /** Laws by which it matters who owns which sign and who stands beside whom. */
    private String jealousLaw() {
        StringBuilder text = new StringBuilder();
        int lines = upTo(5);
        int men = Math.max(1, y.now.men.size());
        for (int i = 0; i < lines; i++) {
            int sign = SIGNS.indexOf(letters.charAt(random.nextInt(letters.length())));
            text.append("pay ").append(upTo(12)).append(" when sign=").append(sign);
            text.append(" and owner=").append(random.nextInt(men)).append(';');
        }
        String[] ends = {"", "pay long;", "pay left;", "pay long+first;", "pay 9-used when left<29;", "pay place;"};
        return text.append(ends[random.nextInt(ends.length)]).toString();
    }

    private String law() {
        if (random.nextInt(3) == 0) {
            return jealousLaw();
        }
        StringBuilder text = new StringBuilder();
        int lines = random.nextInt(40) == 0 ? 14 + upTo(4) : 1 + upTo(3);
        for (int i = 0; i < lines; i++) {
            text.append("pay ").append(lines > 10 ? "" + upTo(9) : sum());
            if (random.nextInt(4) > 0 && lines < 10) {
                text.append(" when ").append(any(0));
            }
            text.append(';');
            text.append(random.nextInt(5) == 0 ? "\n " : "");
        }
        if (random.nextInt(5) == 0) {
            int at = upTo(text.length() - 1);
            String odd = "(not )+-*/0;<=> ax9PwhenAZ[@";
            int from = upTo(odd.length() - 1);
            text.replace(at, at + upTo(1), odd.substring(from, Math.min(odd.length(), from + 1 + upTo(2))));
        }
        return text.length() > 400 ? text.substring(0, 400) : text.toString();
    }

    private String any(int deep) {
        String text = all(deep);
        return random.nextInt(4) == 0 ? text + " or " + all(deep) : text;
    }

    private String all(int deep) {
        String text = claim(deep);
        return random.nextInt(4) == 0 ? text + " and " + claim(deep) : text;
    }

    private String claim(int deep) {
        int which = random.nextInt(deep < 3 ? 8 : 10);
        if (random.nextInt(200) == 0) {
            return "not ".repeat(upTo(9)) + claim(deep);
        }
        if (random.nextInt(200) == 0) {
            int n = upTo(9);
            return "(".repeat(n) + claim(deep) + ")".repeat(n);
        }
        if (which == 0 && deep < 4) {
            return "not " + claim(deep + 1);
        }
        if (which == 1 && deep < 4) {
            return "(" + any(deep + 1) + ")";
        }
        if (random.nextInt(3) == 0) {
            return "owner=" + upTo(7);
        }
        return sum() + "<=>".charAt(upTo(2)) + sum();
    }

    private String sum() {
        StringBuilder text = new StringBuilder(product());
        while (random.nextInt(4) == 0) {
            text.append(random.nextBoolean() ? "+" : " - ").append(product());
        }
        return text.toString();
    }

    private String product() {
        StringBuilder text = new StringBuilder(unit());
        while (random.nextInt(5) == 0) {
            text.append(random.nextInt(3) > 0 ? "*" + unit() : "/" + (random.nextInt(50) == 0 ? 0 : 1 + upTo(8)));
        }
        return text.toString();
    }

    private String unit() {
        String[] facts = {"sign", "place", "long", "used", "vowel", "owner", "day", "left", "first", "owner", "long",
            "left"};
        int which = random.nextInt(20);
        return which < facts.length ? facts[which] : which == 19 ? "" + upTo(9999) : "" + upTo(9);
    }

    private void change() {
        switch (random.nextInt(14)) {
            case 0:
                addMan();
                break;
            case 1: case 2: case 3: {
                int sign = near(0, 28);
                int a = random.nextInt(10) == 0 ? -1 : man();
                same("own", x.own(sign, a), y.own(sign, a));
                break;
            }
            case 4:
                same("day", x.day(), y.day());
                break;
            case 5: {
                int v = random.nextInt();
                same("state", x.state(v), y.state(v));
                break;
            }
            case 6:
                if (random.nextInt(4) == 0) {
                    same("clear", x.clear(), y.clear());
                }
                break;
            default:
                set();
                break;
        }
    }

    private void set() {
        int[] most = {1000, 1, 99, 1, 99999, 40, 5};
        int what = near(0, 5);
        int bound = what >= 0 && what < most.length ? most[what] : 5;
        int who = what == 1 ? near(0, 28) : what == 0 ? random.nextInt() : man();
        int v = what == 0 && random.nextInt(3) == 0 ? 0 : what == 2 && random.nextInt(4) > 0 ? near(0, 5)
            : (what == 1 || what == 3) && random.nextInt(4) > 0 ? 0 : near(what == 5 ? -1 : 0, bound);
        if (what == 5 && random.nextInt(3) == 0 && who >= 0 && who < y.now.men.size()) {
            v = 0;
            for (int s = 0; s < 29; s++) {
                v += y.now.owner[s] == who ? y.now.printed[s] : 0;
            }
        }
        same("set(" + what + ", " + who + ", " + v + ")", x.set(what, who, v), y.set(what, who, v));
    }

    private void print() {
        int times = random.nextInt(8) == 0 ? 8 : 1;
        for (int i = 0; i < times; i++) {
            same("print", x.print(), y.print());
        }
        times = random.nextInt(3) == 0 ? upTo(8) : 0;
        for (int i = 0; i < times; i++) {
            same("undo", x.undo(), y.undo());
        }
    }

    private void back() {
        boolean taken = random.nextBoolean();
        same("image(" + taken + ")", x.image(taken), y.image(taken));
    }

    private void ask() {
        int what = near(0, 9);
        switch (random.nextInt(14)) {
            case 0:
                same("look(" + what + ")", x.look(what), y.look(what));
                break;
            case 1: case 2:
                askOf(man(), near(0, 6));
                break;
            case 3:
                askSign(near(0, 28), near(0, 2));
                break;
            case 4: {
                int i = near(0, 60);
                same("at(" + i + ")", x.at(i), y.at(i));
                break;
            }
            case 5: case 6: {
                int i = near(0, Math.max(1, y.now.page.size()));
                same("pays(" + i + ")", x.pays(i), y.pays(i));
                break;
            }
            case 7:
                askRoll(near(0, 200), near(0, 4));
                break;
            default:
                think(near(0, 4));
                break;
        }
    }

    private void think(int what) {
        int a = man();
        switch (random.nextInt(6)) {
            case 0:
                if (thoughts < 25) {
                    thoughts++;
                    same("fewest(" + what + ")", x.fewest(what), y.fewest(what));
                }
                break;
            case 1:
                if (thoughts < 25 || random.nextInt(10) == 0) {
                    same("buy(" + a + ", " + what + ")", x.buy(a, what), y.buy(a, what));
                }
                break;
            case 2:
                same("can", x.can(), y.can());
                break;
            case 3:
                same("hurts(" + a + ", " + what + ")", x.hurts(a, what), y.hurts(a, what));
                break;
            case 4:
                same("swap(" + what + ")", x.swap(what), y.swap(what));
                break;
            default:
                same("liars", x.liars(), y.liars());
                break;
        }
    }

    private void askOf(int a, int what) {
        same("of(" + a + ", " + what + ")", x.of(a, what), y.of(a, what));
    }

    private void askSign(int s, int what) {
        same("sign(" + s + ", " + what + ")", x.sign(s, what), y.sign(s, what));
    }

    private void askRoll(int i, int what) {
        same("roll(" + i + ", " + what + ")", x.roll(i, what), y.roll(i, what));
    }

    private void askAll() {
        for (int what = -1; what < 11; what++) {
            same("look(" + what + ")", x.look(what), y.look(what));
        }
        for (int a = 0; a < 8; a++) {
            for (int what = 0; what < 7; what++) {
                askOf(a, what);
            }
        }
        for (int s = 0; s < 29; s++) {
            for (int what = 0; what < 3; what++) {
                askSign(s, what);
            }
        }
        for (int i = 0; i < 61; i++) {
            same("at(" + i + ")", x.at(i), y.at(i));
            same("pays(" + i + ")", x.pays(i), y.pays(i));
        }
        for (int i = 0; i < 201; i++) {
            for (int what = 0; what < 5; what++) {
                askRoll(i, what);
            }
        }
    }
}
