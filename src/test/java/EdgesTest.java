/** For each sentence of the document that names an edge a test of its own. */
public final class EdgesTest {
    private EdgesTest() {
    }

    public static void main(String[] args) {
        HostsAndJobsEdges.check();
        PlacingEdges.check();
        SafeEdges.check();
        PlanEdges.check();
        LeastEdges.check();
        UndoEdges.check();
        RefusalEdges.check();
        Doc.checkThatAllIsQuoted();
        Check.close();
    }
}
