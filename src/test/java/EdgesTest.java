import java.io.IOException;

/** Each sentence of the terms and promises has a test of its own, which fails if the sentence is broken. */
public final class EdgesTest {
    private EdgesTest() {
    }

    public static void main(String[] args) throws IOException {
        Edges edges = new Edges();
        new HouseEdges(edges).all();
        new TapeEdges(edges).all();
        new LawEdges(edges).all();
        new PrintEdges(edges).all();
        new ThoughtEdges(edges).all();
        new BackEdges(edges).all();
        edges.close();
    }
}
