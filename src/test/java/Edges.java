import java.io.IOException;
import java.nio.file.Files;
import java.nio.file.Path;
import java.util.HashSet;
import java.util.Set;

/** Tests of edges: each has a name of its own, and the words of the document that it would find broken. */
abstract class Edges extends Scene {
    interface Edge {
        void run();
    }

    private static final String DOCUMENT = read(Path.of("..", "shared", "DOC.md"));
    private static final Set<String> NAMES = new HashSet<>();
    private static String words = "";

    /** What follows is about the section below this heading. */
    static void section(String heading) {
        CHECK.part(heading);
        int from = DOCUMENT.indexOf(heading);
        CHECK.holds("the document has this section", DOCUMENT.isEmpty() || from >= 0);
        words = from < 0 ? "" : DOCUMENT.substring(from, endOfSection(from + heading.length()));
    }

    static void edge(String name, String quoted, Edge edge) {
        CHECK.part(name);
        CHECK.holds("its name is its own", NAMES.add(name));
        CHECK.holds("the section says: " + quoted, words.isEmpty() || words.contains(quoted));
        fresh();
        try {
            edge.run();
        } catch (RuntimeException | Error thrown) {
            CHECK.holds("nothing is thrown: " + thrown, false);
        }
    }

    private static int endOfSection(int from) {
        int end = DOCUMENT.indexOf("\n#", from);
        return end < 0 ? DOCUMENT.length() : end;
    }

    /** Empty if there is no document beside the checkout; then the quoted words are not looked up. */
    private static String read(Path path) {
        try {
            return Files.isReadable(path) ? Files.readString(path) : "";
        } catch (IOException e) {
            return "";
        }
    }
}
