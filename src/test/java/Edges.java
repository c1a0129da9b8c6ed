import java.io.IOException;
import java.io.UncheckedIOException;
import java.nio.file.Files;
import java.nio.file.Path;
import java.util.TreeSet;

/**
 * Runs boundary cases. Each is told by its promise and by the very words of the document that name the boundary, and
 * these words must stand there still: if the document is changed, its tests are to be looked at again.
 */
final class Edges {
    interface Case {
        void hold(Check check);
    }

    private static final Path DOCUMENT = Path.of("../shared/DOC.md");

    private final Check check = new Check();
    private final String document = read();
    private final TreeSet<Integer> promises = new TreeSet<>();

    private static String read() {
        try {
            return Files.readString(DOCUMENT);
        } catch (IOException e) {
            throw new UncheckedIOException(e);
        }
    }

    void edge(int promise, String words, String title, Case edge) {
        promises.add(promise);
        check.begin("promise " + promise + ", \"" + words + "\", " + title + ": ");
        if (!stands(words, promise)) {
            check.wrong("the document has no such words");
        }
        int before = check.made();
        try {
            edge.hold(check);
        } catch (RuntimeException e) {
            check.wrong("a call threw " + e.getClass().getSimpleName());
        }
        if (check.made() == before) {
            check.wrong("nothing was checked");
        }
    }

    /** In the promise's own section, or where the document speaks of all promises. */
    private boolean stands(String words, int promise) {
        return section("## Promise " + promise + ": ").contains(words) || section("## Terms").contains(words)
            || section("## What it is").contains(words);
    }

    private String section(String heading) {
        int start = document.indexOf(heading);
        if (start < 0) {
            return "";
        }
        int end = document.indexOf("\n## ", start);
        return document.substring(start, end < 0 ? document.length() : end);
    }

    /** Ends the test; none of the promises from first to last may be without a boundary case. */
    void end(String test, int first, int last) {
        check.begin(test + ": ");
        for (int promise = first; promise <= last; promise++) {
            check.due("promise " + promise + " has cases", promises.contains(promise), true);
        }
        check.end(test);
    }
}
