import java.nio.file.Path;

/** A test of its own for each sentence of the document that names a boundary; each quotes its sentence. */
public final class EdgesTest {
    public static void main(String[] args) throws Exception {
        Doc doc = new Doc(Path.of(System.getProperty("project.root", "."), "../shared/DOC.md"));
        Sentences s = new Sentences(doc);
        s.all(TermEdges.class);
        s.all(LandEdges.class);
        s.all(RowEdges.class);
        s.all(RoadEdges.class);
        s.all(DriveEdges.class);
        s.all(FeltEdges.class);
        s.all(AlikeEdges.class);
        s.all(WayEdges.class);
        s.all(ToldEdges.class);
        s.allQuoted();
        s.end("EdgesTest");
    }
}
