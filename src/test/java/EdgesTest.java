/** Each sentence of the document that names a boundary case, with a test of its own; no sentence may be left out. */
public final class EdgesTest {
    public static void main(String[] args) throws java.io.IOException {
        Edge.open();
        EdgesOfWalking.run();
        EdgesOfTexts.run();
        EdgesOfFinding.run();
        EdgesOfPromises.run();
        int wrong = Edge.close();
        System.out.println(wrong == 0 ? "all edges hold" : wrong + " edges don't hold");
        if (wrong != 0) {
            System.exit(1);
        }
    }
}
