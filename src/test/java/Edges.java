import java.io.IOException;
import java.nio.file.Files;
import java.nio.file.Path;
import java.util.Map;
import java.util.TreeMap;
import java.util.regex.Matcher;
import java.util.regex.Pattern;

/**
 * The sentences of the document, each with the answers that are due by it. A test tells first which words of which
 * part it stands for: they must stand there, and in the end no words of the terms and promises may be left over.
 */
final class Edges {
    private static final Path DOCUMENT = Path.of("../shared/DOC.md");
    private static final int PROMISES = 28;

    private static final class Part {
        final String text;
        final boolean[] tested;

        Part(String text) {
            this.text = text;
            tested = new boolean[text.length()];
        }

        /** The words are looked for where no test stands for them yet: one sentence may stand twice in a part. */
        boolean take(String words) {
            int at = text.indexOf(words);
            while (at >= 0 && tested[at]) {
                at = text.indexOf(words, at + 1);
            }
            for (int i = at; at >= 0 && i < at + words.length(); i++) {
                tested[i] = true;
            }
            return at >= 0;
        }

        String leftOver() {
            StringBuilder left = new StringBuilder();
            for (int i = 0; i < text.length(); i++) {
                left.append(tested[i] ? ' ' : text.charAt(i));
            }
            return left.toString().replaceAll("[^A-Za-z0-9]+", " ").trim();
        }
    }

    private final Check check = new Check("EdgesTest");
    private final Map<String, Part> parts = new TreeMap<>();
    private String now = "";
    private int sentences;
    private int answers;

    Edges() throws IOException {
        String all = Files.readString(DOCUMENT).replaceAll("```text|```|==== \\d\\.", " ").replaceAll("\\s+", " ");
        Matcher m = Pattern.compile("## (Terms|Promise (\\d+):)(.*?)(?= ## |$)").matcher(all);
        while (m.find()) {
            boolean terms = m.group(2) == null;
            String text = terms ? m.group(3) : m.group(3).replaceFirst("^[^`]*`[^`]*`:", "");
            parts.put(terms ? "Terms" : m.group(2), new Part(text));
        }
        check.due("the terms and promises of the document", parts.size(), 1 + PROMISES);
    }

    /** From here on the answers are those that are due by these words of this part of the document. */
    void sentence(String part, String words) {
        endSentence();
        now = part + " '" + words + "': ";
        sentences++;
        check.due(now + "stands in the document", parts.containsKey(part) && parts.get(part).take(words), true);
    }

    void due(String call, long got, long want) {
        answers++;
        check.due(now + call, got, want);
    }

    private void endSentence() {
        check.due(now + "has a test", answers > 0 || sentences == 0, true);
        answers = 0;
    }

    void close() {
        endSentence();
        parts.forEach((name, part) ->
            check.due(name + ": no test stands for '" + part.leftOver() + "'", part.leftOver().length(), 0));
        System.out.println("EdgesTest: " + sentences + " sentences");
        check.close();
    }
}
