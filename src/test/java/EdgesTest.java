/** The document's boundaries, sentence by sentence; each test is named by its promise and its sentence. */
public final class EdgesTest {
    public static void main(String[] args) {
        EdgesOfBeach.all();
        EdgesOfTexts.all();
        EdgesOfLooking.all();
        EdgesOfWhere.all();
        EdgesOfHost.all();
        Edge.end("EdgesTest");
    }
}
