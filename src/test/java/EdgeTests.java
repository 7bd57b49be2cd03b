/** For each sentence of the document that names an edge a test of its own; no sentence is left out. */
public final class EdgeTests {
    public static void main(String[] args) {
        MowerEdges.all();
        FieldEdges.all();
        MinuteEdges.all();
        AskedEdges.all();
        ToldEdges.all();
        TapeEdges.all();
        PromiseEdges.all();
        Document.allIsSaid();
        calls();
        Due.close("EdgeTests");
    }

    /** An object is used for at most 512 calls: the 512th is answered like any other. */
    private static void calls() {
        NineMowers x = new NineMowers();
        x.mower(1, 0);
        for (int call = 2; call < 512; call++) {
            x.minute();
        }
        Due.due("AT by the 512th call", x.of(0, 2), 10 * 6 + 500 * 3);
    }
}
