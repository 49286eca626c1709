import java.io.IOException;
import java.nio.file.Files;
import java.nio.file.Path;
import java.util.ArrayList;
import java.util.LinkedHashMap;
import java.util.List;
import java.util.Map;

/**
 * The document, sentence by sentence. A test names the sentence that it holds the class to. Told as faults are:
 * a name that the document does not have, a name without a check behind it, and a sentence that no test has named.
 */
final class Sentences {
    /** Headings under which no sentence must be named, since they sum up, or tell what is free. */
    private static final List<String> FREE = List.of("RingThreads", "What it is", "The public face", "Terms",
        "Not promised");

    private final Map<String, String> texts = new LinkedHashMap<>();
    private final Map<String, List<String>> unnamed = new LinkedHashMap<>();
    private int names;
    private String now = "";
    private int checksAhead;

    Sentences(Path document) throws IOException {
        String section = "";
        for (String line : Files.readAllLines(document)) {
            if (line.startsWith("#") || line.equals("Snapshots, undo")) {
                section = line.replaceAll("^#+ ", "").replaceAll("^(Promise [0-9]+):.*", "$1");
            } else if (!line.isBlank() && !line.startsWith("Ahead of the calls")) {
                // The signature ahead of a promise is the public face's matter.
                take(section, line.replaceAll("^`[^`]*\\)[^`]*`: ", ""));
            }
        }
    }

    private void take(String section, String line) {
        texts.merge(section, line, (text, more) -> text + "\n" + more);
        if (!FREE.contains(section)) {
            List<String> sentences = unnamed.computeIfAbsent(section, s -> new ArrayList<>());
            sentences.addAll(List.of(line.split("(?<=\\.) (?=[A-Z])")));
        }
    }

    /** A test that ends by an exception is a fault of the sentence that it named last. */
    void run(Runnable... tests) {
        for (Runnable test : tests) {
            try {
                test.run();
            } catch (RuntimeException e) {
                Check.equal("the rest of the test", "no exception", e.toString());
            }
        }
    }

    /** All checks from here on hold the class to these words, a sentence or a part of one. */
    void named(String section, String words) {
        endOfName();
        Check.isTrue(section + " says \"" + words + "\"", texts.getOrDefault(section, "").contains(words));
        unnamed.getOrDefault(section, new ArrayList<>()).removeIf(sentence -> sentence.contains(words));
        names++;
        now = section + ", \"" + words + "\"";
        Check.heading(now + ": ");
        checksAhead = Check.made();
    }

    void promise(int number, String words) {
        named("Promise " + number, words);
    }

    private void endOfName() {
        Check.heading("");
        Check.isTrue("a check stands behind the name " + now, now.isEmpty() || Check.made() > checksAhead);
    }

    /** To be called behind the last test. */
    void allAreNamed() {
        endOfName();
        System.out.println("     " + names + " sentences and parts of them are named");
        for (Map.Entry<String, List<String>> entry : unnamed.entrySet()) {
            for (String sentence : entry.getValue()) {
                Check.equal("the sentence of " + entry.getKey() + " \"" + sentence + "\"", "named by a test",
                    "not named");
            }
        }
    }
}
