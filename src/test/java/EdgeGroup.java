/** Tests of some sentences of the document, and the houses that they begin with. */
abstract class EdgeGroup {
    static final int NONE = CommaOrphans.NONE;
    static final int LEAST = Integer.MIN_VALUE;
    static final int MOST = Integer.MAX_VALUE;
    private final Edges edges;

    EdgeGroup(Edges edges) {
        this.edges = edges;
    }

    abstract void all();

    final void term(String words) {
        edges.sentence("Terms", words);
    }

    final void promise(int number, String words) {
        edges.sentence("" + number, words);
    }

    final void due(String call, long got, long want) {
        edges.due(call, got, want);
    }

    final void due(String call, boolean got, boolean want) {
        edges.due(call, got ? 1 : 0, want ? 1 : 0);
    }

    /** As many apprentices as breads, with empty purses. */
    static CommaOrphans house(int... breads) {
        CommaOrphans x = new CommaOrphans();
        for (int bread : breads) {
            x.apprentice(0, bread);
        }
        return x;
    }

    /** Three apprentices who need no bread, of whom each owns some signs. */
    static CommaOrphans owned(String ofFirst, String ofSecond, String ofThird) {
        CommaOrphans x = house(0, 0, 0);
        Check.own(x, ofFirst, 0);
        Check.own(x, ofSecond, 1);
        Check.own(x, ofThird, 2);
        return x;
    }

    static CommaOrphans owned(String ofFirst, String ofSecond) {
        return owned(ofFirst, ofSecond, "");
    }

    /** The pays of all places of the page, by a law that must be one. */
    final void pays(CommaOrphans x, String law, int... want) {
        due(law + " is a law", Check.law(x, law) > 0, true);
        for (int i = 0; i < want.length; i++) {
            due(law + " pays at " + i, x.pays(i), want[i]);
        }
    }
}
