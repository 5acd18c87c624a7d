import java.io.IOException;
import java.nio.file.Files;
import java.nio.file.Path;
import java.util.ArrayList;
import java.util.List;

/**
 * For each sentence of the document that names a boundary case a test of its own, told by that sentence,
 * with inputs on both sides of the boundary. The sentences stand with their tests under src/test/support.
 */
public final class BoundaryTests {
    private static final Path DOCUMENT = Path.of("../shared/DOC.md");

    /** What the document says beside the sentences that are held: titles, and what no call could tell. */
    private static final String[] WITHOUT_BOUNDARY = {
        "A bounded cache: values with weights, kept by how often and how lately they were asked for, with times to live, loads and"
            + " reloads on the way, and a room for new ones that grows and shrinks by how well it goes.",
        "BUFFERS.",
        "COUNTS.",
        "MAINTENANCE:",
    };

    public static void main(String[] args) throws IOException {
        List<Held> all = new ArrayList<>();
        all.addAll(TermBoundaries.all());
        all.addAll(CountBoundaries.all());
        all.addAll(RoomBoundaries.all());
        all.addAll(EvictionBoundaries.all());
        all.addAll(CallBoundaries.all());
        int broken = 0;
        for (Held held : all) {
            broken += holds(held) ? 0 : 1;
        }
        System.out.println(all.size() + " sentences, " + broken + " do not hold");
        lookForSentencesWithoutTest(all);
        Sheet.close();
    }

    private static boolean holds(Held held) {
        int before = Sheet.wrong();
        Sheet.ask("\"" + held.sentence() + "\"");
        try {
            held.test().run();
        } catch (RuntimeException | AssertionError e) {
            Sheet.fault("the test ended by " + e);
        }
        return Sheet.wrong() == before;
    }

    private static void lookForSentencesWithoutTest(List<Held> all) throws IOException {
        Sheet.ask("the document");
        if (!Files.isReadable(DOCUMENT)) {
            System.out.println(DOCUMENT + " is not here: it is not looked whether each sentence has a test");
            return;
        }
        String text = sentencesOf(Files.readString(DOCUMENT));
        boolean[] seen = new boolean[text.length()];
        for (Held held : all) {
            mark(text, held.sentence(), seen);
        }
        for (String sentence : WITHOUT_BOUNDARY) {
            mark(text, sentence, seen);
        }
        StringBuilder rest = new StringBuilder();
        for (int i = 0; i < seen.length; i++) {
            rest.append(seen[i] ? ' ' : text.charAt(i));
        }
        if (!rest.toString().isBlank()) {
            Sheet.fault("without a test: " + rest.toString().replaceAll("\\s+", " "));
        }
    }

    /** The running text, without titles, the face (FaceTest has that) and what is not promised. */
    private static String sentencesOf(String document) {
        return document.replaceAll("(?s)## Not promised.*", "")
            .replaceAll("(?s)```java.*?```", " ")
            .replaceAll("(?m)^#.*$", " ")
            .replaceAll("(?m)^`[^`]*`:", " ")
            .replaceAll("```(text)?", " ")
            .replaceAll("\\s+", " ");
    }

    private static void mark(String text, String sentence, boolean[] seen) {
        int at = text.indexOf(sentence);
        if (at < 0) {
            Sheet.fault("it does not say: " + sentence);
        }
        for (; at >= 0; at = text.indexOf(sentence, at + 1)) {
            for (int i = at; i < at + sentence.length(); i++) {
                seen[i] = true;
            }
        }
    }
}
