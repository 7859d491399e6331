import java.io.IOException;
import java.nio.file.Files;
import java.nio.file.Path;
import java.util.BitSet;
import java.util.LinkedHashMap;
import java.util.Map;

/** Tests told by the words of the document: the words must stand in it, and none of it may be left out. */
public final class Sentences {
    /** The test of one sentence. */
    public interface Test {
        void run();
    }

    private final Checks checks;
    private final Map<String, String> sections = new LinkedHashMap<>();
    private final Map<String, BitSet> told = new LinkedHashMap<>();
    private String section = "";
    private int count;

    // root is the folder of the project, with shared/ beside it.
    public Sentences(Checks checks, String root) throws IOException {
        this.checks = checks;
        Path document = Path.of(root).resolve("../shared/DOC.md");
        if (Files.isReadable(document)) {
            split(Files.readString(document));
        } else {
            System.out.println("no document at " + document + ": the sentences are not looked up");
        }
    }

    private void split(String document) {
        for (String part : document.split("\n## ")) {
            int end = part.indexOf('\n');
            if (end != -1) {
                String title = part.substring(0, end).replaceAll("^(Promise \\d+):.*", "$1");
                sections.put(title, plain(part.substring(end)));
            }
        }
    }

    // Without the signature, which the test of the face looks at, and without parameters that tell no number.
    private static String plain(String text) {
        String bare = text.replaceAll("(?s)```.*?```", "").replaceAll("(?m)^`[^`]*`: ", "");
        StringBuilder kept = new StringBuilder();
        for (String line : bare.split("\n")) {
            boolean isParameter = line.startsWith("- `");
            if (!isParameter) {
                kept.append(line).append('\n');
            } else if (line.matches(".*\\d.*")) {
                kept.append(line.replaceAll("^- `\\w+`: ", "")).append('\n');
            }
        }
        return kept.toString().replaceAll("\\s+", " ").strip();
    }

    public void in(String title) {
        section = title;
        told.put(title, new BitSet());
        checks.where("");
        checks.yes("the document has " + title, sections.isEmpty() || sections.containsKey(title));
    }

    public void says(String words, Test test) {
        checks.where(section + ", \"" + words + "\"");
        if (!sections.isEmpty()) {
            lookUp(words);
        }
        int before = checks.done();
        test.run();
        checks.yes("has a test", checks.done() > before);
        count++;
        checks.where("");
    }

    // The same words can stand twice: then each has its own test.
    private void lookUp(String words) {
        String text = sections.getOrDefault(section, "");
        BitSet marks = told.get(section);
        int at = text.indexOf(words);
        while (at != -1 && marks.get(at)) {
            at = text.indexOf(words, at + 1);
        }
        checks.yes("stands in the document", at != -1);
        if (at != -1) {
            marks.set(at, at + words.length());
        }
    }

    public void end() {
        for (Map.Entry<String, BitSet> entry : told.entrySet()) {
            String text = sections.getOrDefault(entry.getKey(), "");
            StringBuilder left = new StringBuilder();
            for (int i = 0; i < text.length(); i++) {
                left.append(entry.getValue().get(i) ? "" : text.charAt(i));
            }
            checks.note("what has no test of " + entry.getKey(), left.toString().replaceAll("\\s+", " ").strip(), "");
        }
        System.out.println(count + " sentences have tests");
    }
}
