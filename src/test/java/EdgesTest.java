/** The document sentence by sentence: each one has a test of its own here, with the edges that it names. */
public final class EdgesTest {
    public static void main(String[] args) {
        DescriptionEdges.run();
        MeasurementEdges.run();
        ProfileEdges.run();
        HistoryEdges.run();
        RoundnessEdges.run();
        TracesEdges.run();
        RulesEdges.run();
        TextEdges.run();
        SimulationEdges.run();
        Refusals.run();
        Doc.finish();
        Check.finish();
    }
}
