/**
 * Each sentence of the document that names a boundary case, by a test of its own: the last number that is taken and
 * the first that is refused, the empty and the full case, what wraps, and each refused call, with a look behind it.
 */
final class EdgeTest {
    private EdgeTest() {
    }

    static void run() {
        LawEdges.run();
        LivesEdges.run();
        YearsEdges.run();
        HiddenEdges.run();
        AdjusterEdges.run();
        RuinEdges.run();
        LotsEdges.run();
        ToldEdges.run();
        HostEdges.run();
        AskedEdges.run();
        ChangeEdges.run();
    }
}
