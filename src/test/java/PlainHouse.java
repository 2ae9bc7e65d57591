import java.util.ArrayList;
import java.util.Arrays;
import java.util.List;
import java.util.function.Predicate;
import java.util.function.ToIntFunction;

/** The document told once more in the plainest way, to be held against CommaOrphans: all by trying all. */
final class PlainHouse {
    static final int NONE = -1;
    static final int BLANK = 29;

    static final class Man implements Cloneable {
        int purse;
        int bread;
        int hungry;
        boolean strike;
        int told = NONE;

        Man copy() {
            Man m = new Man();
            m.purse = purse;
            m.bread = bread;
            m.hungry = hungry;
            m.strike = strike;
            m.told = told;
            return m;
        }
    }

    static final class Line {
        ToIntFunction<Facts> pay;
        Predicate<Facts> when;
    }

    static final class Facts {
        int sign, place, longs, used, vowel, owner, day, left, first;
    }

    static final class All {
        int state;
        int day;
        int gaps;
        int jealousy;
        List<Man> men = new ArrayList<>();
        int[] owner = new int[29];
        boolean[] burnt = new boolean[29];
        int[] printed = new int[29];
        List<Integer> page = new ArrayList<>();
        List<List<Integer>> list = new ArrayList<>();
        List<Line> law = new ArrayList<>();
        List<int[]> roll = new ArrayList<>();

        All() {
            Arrays.fill(owner, NONE);
        }

        All copy() {
            All c = new All();
            c.state = state;
            c.day = day;
            c.gaps = gaps;
            c.jealousy = jealousy;
            for (Man m : men) {
                c.men.add(m.copy());
            }
            c.owner = owner.clone();
            c.burnt = burnt.clone();
            c.printed = printed.clone();
            c.page = new ArrayList<>(page);
            c.list = new ArrayList<>(list);
            c.law = law;
            c.roll = new ArrayList<>(roll);
            return c;
        }
    }

    All now = new All();
    private All image;
    private final List<All> undos = new ArrayList<>();
    private List<Integer> tape = new ArrayList<>();
    private int fault;
    private int faultPlace = NONE;

    int state(int v) {
        int was = now.state;
        now.state = v;
        undos.clear();
        return was;
    }

    int apprentice(int purse, int bread) {
        if (purse < 0 || purse > 99999 || bread < 0 || bread > 99 || now.men.size() == 8) {
            return NONE;
        }
        Man m = new Man();
        m.purse = purse;
        m.bread = bread;
        now.men.add(m);
        undos.clear();
        return now.men.size() - 1;
    }

    private boolean isMan(int a) {
        return a >= 0 && a < now.men.size();
    }

    boolean own(int sign, int a) {
        if (sign < 0 || sign > 28 || a != NONE && !isMan(a)) {
            return false;
        }
        now.owner[sign] = a;
        undos.clear();
        return true;
    }

    boolean set(int what, int who, int v) {
        if (what < 0 || what > 5) {
            return false;
        }
        if (what == 0 && (v < 0 || v > 1000)) {
            return false;
        }
        if (what == 1 && (who < 0 || who > 28 || v < 0 || v > 1)) {
            return false;
        }
        if (what > 1 && !isMan(who)) {
            return false;
        }
        int[] most = {0, 0, 99, 1, 99999, 99999};
        if (what > 1 && (v < (what == 5 ? NONE : 0) || v > most[what])) {
            return false;
        }
        switch (what) {
            case 0: now.jealousy = v; break;
            case 1: now.burnt[who] = v == 1; break;
            case 2: now.men.get(who).bread = v; break;
            case 3: now.men.get(who).strike = v == 1; break;
            case 4: now.men.get(who).purse = v; break;
            default: now.men.get(who).told = v; break;
        }
        if (what != 5) {
            undos.clear();
        }
        return true;
    }

    int feed(int a, int b, int c, int d, int e) {
        if (tape.size() + 20 > 400) {
            return NONE;
        }
        for (int v : new int[] {a, b, c, d, e}) {
            for (int shift = 24; shift >= 0; shift -= 8) {
                tape.add(v >>> shift & 255);
            }
        }
        return tape.size();
    }

    boolean end(int n) {
        if (n < 0 || n > tape.size()) {
            return false;
        }
        tape = new ArrayList<>(tape.subList(0, n));
        return true;
    }

    private List<Integer> takeTape() {
        List<Integer> was = tape;
        tape = new ArrayList<>();
        return was;
    }

    int text() {
        PlainLaw reader = new PlainLaw(takeTape());
        List<Line> read = reader.read();
        fault = reader.fault;
        faultPlace = reader.faultPlace;
        if (read == null) {
            return NONE;
        }
        now.law = read;
        return read.size();
    }

    int fault(int what) {
        return what == 0 ? fault : what == 1 ? faultPlace : NONE;
    }

    int page() {
        List<Integer> bytes = takeTape();
        List<Integer> row = new ArrayList<>();
        for (int i = 0; i < bytes.size(); i++) {
            int at = "abcdefghijklmnopqrstuvwxyz,.; \n".indexOf((char) (int) bytes.get(i));
            if (at < 0 || i == 60) {
                return NONE - i;
            }
            row.add(Math.min(at, BLANK));
        }
        now.page = row;
        return row.size();
    }

    int word() {
        List<Integer> bytes = takeTape();
        if (bytes.isEmpty() || bytes.size() > 12 || now.list.size() == 20) {
            return NONE;
        }
        List<Integer> row = new ArrayList<>();
        for (int b : bytes) {
            if (b < 'a' || b > 'z') {
                return NONE;
            }
            row.add(b - 'a');
        }
        now.list.add(row);
        return now.list.size() - 1;
    }

    int clear() {
        int had = now.list.size();
        now.list = new ArrayList<>();
        return had;
    }

    private boolean can(int sign) {
        return sign < 29 && !now.burnt[sign] && now.owner[sign] != NONE && !now.men.get(now.owner[sign]).strike;
    }

    private static boolean letter(List<Integer> row, int i) {
        return i >= 0 && i < row.size() && row.get(i) < 26;
    }

    private Facts facts(List<Integer> row, int i) {
        Facts f = new Facts();
        f.sign = row.get(i);
        f.place = i;
        if (letter(row, i)) {
            int from = i;
            while (letter(row, from - 1)) {
                from--;
            }
            f.first = from == i ? 1 : 0;
            for (int j = from; letter(row, j); j++) {
                f.longs += can(row.get(j)) ? 1 : 0;
            }
        }
        for (int j = 0; j < i; j++) {
            f.used += row.get(j) == f.sign ? 1 : 0;
        }
        f.vowel = List.of(0, 4, 8, 14, 20).contains(f.sign) ? 1 : 0;
        f.owner = now.owner[f.sign] == NONE ? 9 : now.owner[f.sign];
        f.day = now.day;
        f.left = i > 0 && can(row.get(i - 1)) ? row.get(i - 1) : 29;
        return f;
    }

    private int paid(List<Integer> row, int i) {
        Facts f = facts(row, i);
        for (Line line : now.law) {
            if (line.when == null || line.when.test(f)) {
                return Math.max(0, Math.min(99, line.pay.applyAsInt(f)));
            }
        }
        return 1;
    }

    private int earns(List<Integer> row, int a) {
        int sum = 0;
        for (int i = 0; i < row.size(); i++) {
            if (can(row.get(i)) && now.owner[row.get(i)] == a) {
                sum += paid(row, i);
            }
        }
        return sum;
    }

    private int draw(int m) {
        now.state = now.state * 1664525 + 1013904223;
        return (int) ((now.state & 0xFFFFFFFFL) >> 8) % m;
    }

    int print() {
        undos.add(now.copy());
        if (undos.size() > 6) {
            undos.remove(0);
        }
        int count = 0;
        int last = NONE;
        for (int i = 0; i < now.page.size(); i++) {
            int sign = now.page.get(i);
            if (sign == BLANK) {
                continue;
            }
            if (now.jealousy > 0 && draw(1000) < now.jealousy && last != NONE) {
                sign = 0;
                while (now.owner[sign] != now.owner[last]) {
                    sign++;
                }
            }
            if (!can(sign)) {
                now.gaps++;
                continue;
            }
            List<Integer> row = new ArrayList<>(now.page);
            row.set(i, sign);
            Man m = now.men.get(now.owner[sign]);
            int was = m.purse;
            m.purse = Math.min(99999, was + paid(row, i));
            now.printed[sign]++;
            if (now.roll.size() < 200) {
                now.roll.add(new int[] {sign, now.day, i, now.owner[sign], m.purse - was});
            }
            last = sign;
            count++;
        }
        return count;
    }

    int day() {
        if (now.day == 9999) {
            return NONE;
        }
        int count = 0;
        for (Man m : now.men) {
            if (m.purse >= m.bread) {
                m.purse -= m.bread;
            } else {
                m.hungry++;
                count++;
            }
        }
        now.day++;
        undos.clear();
        return count;
    }

    int of(int a, int what) {
        if (!isMan(a)) {
            return NONE - 1;
        }
        Man m = now.men.get(a);
        switch (what) {
            case 0: return m.purse;
            case 1: return m.bread;
            case 2: return m.strike ? 1 : 0;
            case 3: return m.hungry;
            case 4: return (int) Arrays.stream(now.owner).filter(o -> o == a).count();
            case 5: return m.told;
            case 6: return earns(now.page, a);
            default: return NONE - 1;
        }
    }

    int sign(int s, int what) {
        if (s < 0 || s > 28) {
            return NONE - 1;
        }
        switch (what) {
            case 0: return now.owner[s];
            case 1: return now.burnt[s] ? 1 : 0;
            case 2: return now.printed[s];
            default: return NONE - 1;
        }
    }

    int at(int i) {
        return i >= 0 && i < now.page.size() ? now.page.get(i) : NONE;
    }

    int pays(int i) {
        return at(i) == NONE || at(i) == BLANK ? NONE : paid(now.page, i);
    }

    int roll(int i, int what) {
        return i < 0 || i >= now.roll.size() || what < 0 || what > 4 ? NONE : now.roll.get(i)[what];
    }

    private boolean allEat(List<Integer> row) {
        for (int a = 0; a < now.men.size(); a++) {
            Man m = now.men.get(a);
            boolean some = false;
            for (int s = 0; s < 29; s++) {
                some |= now.owner[s] == a && !now.burnt[s];
            }
            if (!m.strike && some && earns(row, a) < m.bread) {
                return false;
            }
        }
        return true;
    }

    private int[] seekFewest() {
        int[] no = {NONE, NONE, NONE, NONE, NONE};
        int n = now.page.size();
        if (n > 12) {
            return no;
        }
        List<Integer> row = new ArrayList<>(now.page);
        if (allEat(row)) {
            return new int[] {0, NONE, NONE, NONE, NONE};
        }
        for (int p = 0; p < n; p++) {
            for (int s = 0; s < 29 && now.page.get(p) != BLANK; s++) {
                row.set(p, s);
                if (s != now.page.get(p) && allEat(row)) {
                    return new int[] {1, p, s, NONE, NONE};
                }
                row.set(p, now.page.get(p));
            }
        }
        for (int p = 0; p < n; p++) {
            for (int q = p + 1; q < n && now.page.get(p) != BLANK; q++) {
                for (int s = 0; s < 29 && now.page.get(q) != BLANK; s++) {
                    for (int t = 0; t < 29; t++) {
                        row.set(p, s);
                        row.set(q, t);
                        if (s != now.page.get(p) && t != now.page.get(q) && allEat(row)) {
                            return new int[] {2, p, s, q, t};
                        }
                        row.set(p, now.page.get(p));
                        row.set(q, now.page.get(q));
                    }
                }
            }
        }
        return no;
    }

    int fewest(int what) {
        return what < 0 || what > 4 ? NONE : seekFewest()[what];
    }

    int buy(int a, int what) {
        int n = now.list.size();
        if (!isMan(a) || n == 0 || what < 0 || what > 3) {
            return NONE;
        }
        int[] best = null;
        for (int words = 1; words <= 3; words++) {
            for (int i = 0; i < n; i++) {
                for (int j = words > 1 ? i + 1 : NONE; j < (words > 1 ? n : 0); j++) {
                    for (int k = words > 2 ? j + 1 : NONE; k < (words > 2 ? n : 0); k++) {
                        List<Integer> row = new ArrayList<>();
                        for (int w : new int[] {i, j, k}) {
                            if (w != NONE) {
                                if (!row.isEmpty()) {
                                    row.add(BLANK);
                                }
                                row.addAll(now.list.get(w));
                            }
                        }
                        int e = earns(row, a);
                        if (best == null || e > best[0]) {
                            best = new int[] {e, i, j, k};
                        }
                    }
                }
            }
        }
        return best[what];
    }

    int can() {
        int set = 0;
        for (int w = 0; w < now.list.size(); w++) {
            if (now.list.get(w).stream().allMatch(this::can)) {
                set += 1 << w;
            }
        }
        return set;
    }

    int hurts(int a, int what) {
        if (!isMan(a) || what < 0 || what > 1) {
            return NONE - 99999;
        }
        int[] sums = new int[2];
        boolean was = now.men.get(a).strike;
        for (int turn = 0; turn < 2; turn++) {
            now.men.get(a).strike = was || turn == 1;
            if (what == 0) {
                for (int b = 0; b < now.men.size(); b++) {
                    sums[turn] += b == a ? 0 : earns(now.page, b);
                }
            } else {
                sums[turn] = (int) now.page.stream().filter(this::can).count();
            }
        }
        now.men.get(a).strike = was;
        return sums[0] - sums[1];
    }

    int swap(int what) {
        int count = 0;
        int[] first = {NONE, NONE};
        for (int a = 0; a < 29; a++) {
            for (int b = a + 1; b < 29; b++) {
                int x = now.owner[a];
                int y = now.owner[b];
                if (x == NONE || y == NONE || x == y) {
                    continue;
                }
                int ex = earns(now.page, x);
                int ey = earns(now.page, y);
                now.owner[a] = y;
                now.owner[b] = x;
                boolean more = earns(now.page, x) > ex && earns(now.page, y) > ey;
                now.owner[a] = x;
                now.owner[b] = y;
                if (more) {
                    if (count == 0) {
                        first = new int[] {a, b};
                    }
                    count++;
                }
            }
        }
        return what == 0 ? count : what == 1 || what == 2 ? first[what - 1] : NONE;
    }

    int liars() {
        int set = 0;
        for (int a = 0; a < now.men.size(); a++) {
            int sum = 0;
            for (int s = 0; s < 29; s++) {
                sum += now.owner[s] == a ? now.printed[s] : 0;
            }
            int told = now.men.get(a).told;
            set += told != NONE && told != sum ? 1 << a : 0;
        }
        return set;
    }

    boolean undo() {
        if (undos.isEmpty()) {
            return false;
        }
        All was = undos.remove(undos.size() - 1);
        for (int a = 0; a < now.men.size(); a++) {
            now.men.get(a).purse = was.men.get(a).purse;
        }
        now.printed = was.printed;
        now.roll = was.roll;
        now.gaps = was.gaps;
        now.state = was.state;
        return true;
    }

    boolean image(boolean taken) {
        if (taken) {
            image = now.copy();
            return true;
        }
        if (image == null) {
            return false;
        }
        now = image.copy();
        undos.clear();
        return true;
    }

    int look(int what) {
        int[] all = {now.men.size(), now.page.size(), now.list.size(), now.roll.size(), now.gaps, now.day,
            now.jealousy, now.law.size(), undos.size(), now.state};
        return what < 0 || what > 9 ? NONE : all[what];
    }
}
