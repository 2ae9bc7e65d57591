/** What can be asked of a house, as one text: of two houses that are alike it is the same. */
final class Witness {
    private Witness() {
    }

    static String of(CommaOrphans x) {
        StringBuilder all = new StringBuilder(lasting(x));
        return all.append(x.look(8)).append(' ').append(x.fault(0)).append(' ').append(x.fault(1)).toString();
    }

    /** All that an image keeps. */
    static String lasting(CommaOrphans x) {
        StringBuilder all = new StringBuilder();
        for (int what = 0; what < 10; what++) {
            all.append(what == 8 ? 0 : x.look(what)).append(' ');
        }
        for (int a = 0; a < 8; a++) {
            for (int what = 0; what < 7; what++) {
                all.append(x.of(a, what)).append(' ');
            }
        }
        for (int s = 0; s < 29; s++) {
            for (int what = 0; what < 3; what++) {
                all.append(x.sign(s, what)).append(' ');
            }
        }
        for (int i = 0; i < 61; i++) {
            all.append(x.at(i)).append(':').append(x.pays(i)).append(' ');
        }
        for (int i = 0; i < 200; i++) {
            for (int what = 0; what < 5; what++) {
                all.append(x.roll(i, what)).append(' ');
            }
        }
        return all.append(thoughts(x)).toString();
    }

    private static String thoughts(CommaOrphans x) {
        StringBuilder all = new StringBuilder().append(x.can()).append(' ').append(x.liars()).append(' ');
        for (int what = 0; what < 5; what++) {
            all.append(x.fewest(what)).append(' ').append(x.swap(what)).append(' ');
        }
        for (int a = 0; a < 8; a++) {
            for (int what = 0; what < 4; what++) {
                all.append(x.buy(a, what)).append(' ').append(x.hurts(a, what)).append(' ');
            }
        }
        return all.toString();
    }
}
