import java.io.IOException;
import java.nio.file.Files;
import java.nio.file.Path;
import java.util.Optional;

/** A heading of the document, and the tests of the sentences that stand under it. */
final class Heading {
    private static final Path DOCUMENT = Path.of("../shared/DOC.md");

    private final String name;
    // Empty where the document is not at hand: then the calls alone are tested.
    private final Optional<String> text;

    Heading(String name) {
        this.name = name;
        text = textUnder(name);
    }

    /** Runs the test of one sentence: what it finds wrong is printed behind the heading and the sentence. */
    void says(String words, Runnable test) {
        Checks.under(name + ", '" + words + "': ");
        // So that the sentence of each test can be found, even when the document has been changed.
        Checks.same("the document says so", 1, text.isEmpty() || text.get().contains(words) ? 1 : 0);
        try {
            test.run();
        } catch (RuntimeException e) {
            Checks.same("a call that is not to be refused", "an answer", e.toString());
        }
        Checks.under("");
    }

    private static Optional<String> textUnder(String name) {
        if (!Files.exists(DOCUMENT)) {
            return Optional.empty();
        }
        String document = document();
        String line = "\n## " + name + "\n";
        int start = document.indexOf(line);
        if (start < 0) {
            Checks.same("the document has the heading '" + name + "'", 1, 0);
            return Optional.empty();
        }
        int end = document.indexOf("\n## ", start + line.length());
        return Optional.of(document.substring(start, end < 0 ? document.length() : end));
    }

    private static String document() {
        try {
            return Files.readString(DOCUMENT);
        } catch (IOException e) {
            Checks.same("the document can be read", "its text", e.toString());
            return "";
        }
    }
}
