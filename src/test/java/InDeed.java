/** Thoughts done in deed, by the face alone: pages are set, men go on strike, signs change hands, and all goes back. */
final class InDeed {
    private static final int NONE = CommaOrphans.NONE;
    private static final String SIGNS = "abcdefghijklmnopqrstuvwxyz,.; ";
    private final CommaOrphans x;

    InDeed(CommaOrphans x) {
        this.x = x;
    }

    private String page() {
        StringBuilder row = new StringBuilder();
        for (int i = 0; i < x.look(1); i++) {
            row.append(SIGNS.charAt(x.at(i)));
        }
        return row.toString();
    }

    private boolean mustEat(int a) {
        boolean owns = false;
        for (int s = 0; s < 29; s++) {
            owns |= x.sign(s, 0) == a && x.sign(s, 1) == 0;
        }
        return owns && x.of(a, 2) == 0;
    }

    private boolean allEat(String row, boolean[] must) {
        Check.page(x, row);
        for (int a = 0; a < must.length; a++) {
            if (must[a] && x.of(a, 6) < x.of(a, 1)) {
                return false;
            }
        }
        return true;
    }

    private static String with(String row, int place, int sign) {
        return row.substring(0, place) + SIGNS.charAt(sign) + row.substring(place + 1);
    }

    private static boolean isOther(String row, int place, int sign) {
        return row.charAt(place) != ' ' && row.charAt(place) != SIGNS.charAt(sign);
    }

    int[] fewest() {
        String row = page();
        boolean[] must = new boolean[x.look(0)];
        for (int a = 0; a < must.length; a++) {
            must[a] = mustEat(a);
        }
        int[] found = seek(row, must);
        Check.page(x, row);
        return found;
    }

    private int[] seek(String row, boolean[] must) {
        if (allEat(row, must)) {
            return new int[] {0, NONE, NONE, NONE, NONE};
        }
        for (int p = 0; p < row.length(); p++) {
            for (int s = 0; s < 29; s++) {
                if (isOther(row, p, s) && allEat(with(row, p, s), must)) {
                    return new int[] {1, p, s, NONE, NONE};
                }
            }
        }
        for (int p = 0; p < row.length(); p++) {
            for (int q = p + 1; q < row.length(); q++) {
                for (int s = 0; s < 29; s++) {
                    for (int t = 0; t < 29; t++) {
                        if (isOther(row, p, s) && isOther(row, q, t) && allEat(with(with(row, p, s), q, t), must)) {
                            return new int[] {2, p, s, q, t};
                        }
                    }
                }
            }
        }
        return new int[] {NONE, NONE, NONE, NONE, NONE};
    }

    /** Ways with fewer words come first here, so the first that earns most is the one. */
    int[] buy(int a, String... words) {
        String row = page();
        int n = words.length;
        int[] best = {NONE, NONE, NONE, NONE};
        for (int i = 0; i < n; i++) {
            best = better(best, a, words[i], i, NONE, NONE);
        }
        for (int i = 0; i < n; i++) {
            for (int j = i + 1; j < n; j++) {
                best = better(best, a, words[i] + " " + words[j], i, j, NONE);
            }
        }
        for (int i = 0; i < n; i++) {
            for (int j = i + 1; j < n; j++) {
                for (int k = j + 1; k < n; k++) {
                    best = better(best, a, words[i] + " " + words[j] + " " + words[k], i, j, k);
                }
            }
        }
        Check.page(x, row);
        return best;
    }

    private int[] better(int[] best, int a, String row, int i, int j, int k) {
        Check.page(x, row);
        int earns = x.of(a, 6);
        return earns > best[0] ? new int[] {earns, i, j, k} : best;
    }

    private int othersEarn(int a) {
        int sum = 0;
        for (int b = 0; b < x.look(0); b++) {
            sum += b == a ? 0 : x.of(b, 6);
        }
        return sum;
    }

    private int printable() {
        int count = x.print();
        x.undo();
        return count;
    }

    /** There must be no jealousy, for a printing tells how many signs could be printed. */
    int[] hurts(int a) {
        int was = x.of(a, 2);
        int earned = othersEarn(a);
        int could = printable();
        x.set(3, a, 1);
        int[] hurt = {earned - othersEarn(a), could - printable()};
        x.set(3, a, was);
        return hurt;
    }

    int[] swap() {
        int[] found = {0, NONE, NONE};
        for (int a = 0; a < 29; a++) {
            for (int b = a + 1; b < 29; b++) {
                if (bothGain(a, b)) {
                    found = found[0] == 0 ? new int[] {1, a, b} : new int[] {found[0] + 1, found[1], found[2]};
                }
            }
        }
        return found;
    }

    private boolean bothGain(int a, int b) {
        int one = x.sign(a, 0);
        int other = x.sign(b, 0);
        if (one == other || one == NONE || other == NONE) {
            return false;
        }
        int ofOne = x.of(one, 6);
        int ofOther = x.of(other, 6);
        x.own(a, other);
        x.own(b, one);
        boolean gain = x.of(one, 6) > ofOne && x.of(other, 6) > ofOther;
        x.own(a, one);
        x.own(b, other);
        return gain;
    }
}
