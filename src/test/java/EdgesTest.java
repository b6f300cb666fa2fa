/** Each sentence of the document that names an edge has a test of its own, which quotes it. */
public final class EdgesTest {
    private EdgesTest() {
    }

    public static void main(String[] args) throws ReflectiveOperationException {
        Check.run(BoxEdges.class);
        Check.run(TickEdges.class);
        Check.run(SettingsEdges.class);
        Check.run(PacketsEdges.class);
        Check.run(CreditsEdges.class);
        Check.run(TextsEdges.class);
        Check.run(HistoryEdges.class);
        Check.run(ErrorsEdges.class);
        Check.run(ToldEdges.class);
        Check.run(ForecastEdges.class);
        Check.run(ActsEdges.class);
        Document.allIsQuoted();
        Check.end();
    }
}
