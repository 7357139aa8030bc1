/** The document, sentence by sentence: too small, too large, empty, full, refused. */
public final class EdgesTest {
    public static void main(String[] args) {
        Edges e = new Edges();
        new RefusalEdges(e).all();
        new HullEdges(e).all();
        new SoundingEdges(e).all();
        new CrowdEdges(e).all();
        new SeatingEdges(e).all();
        new SeaEdges(e).all();
        new WordsEdges(e).all();
        new RulesEdges(e).all();
        new PassageEdges(e).all();
        new HostEdges(e).all();
        new ActEdges(e).all();
        new KeptEdges(e).all();
        e.end();
    }
}
