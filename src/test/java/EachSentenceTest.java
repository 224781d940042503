import java.io.IOException;
import java.nio.file.Files;
import java.nio.file.Path;
import java.util.ArrayList;
import java.util.LinkedHashMap;
import java.util.List;
import java.util.Map;
import java.util.regex.Matcher;
import java.util.regex.Pattern;
import java.util.stream.Stream;

/**
 * Each word of the document stands in a sentence that a test cites (the face is held by FaceTest), and
 * what a test cites stands in the document. Runs in the project's folder.
 */
public final class EachSentenceTest {
    private static final Due DUE = new Due("EachSentenceTest");
    private static final Path DOCUMENT = Path.of("../shared/DOC.md");
    private static final Path TESTS = Path.of("src/test/java");
    private static final Pattern CITED = Pattern.compile("\\.says\\(\"([^\"]*)\"\\)");
    private static final Pattern PROMISE = Pattern.compile("(Promise \\d+): .*");
    private static final String BESIDE_PROMISES = "";
    private static final String GAP = "\\[\\.\\.\\]";

    /** The words that ask for nothing: of the first of them no term, no promise and no method tells more. */
    private static final String[] FREE = {
        ", and by a share of what was foreseen",
        "what later calls answer is free.",
        "How the state is held inside the object is free, as are the speed of each call, the text of toString"
            + " and the behaviour of equals and hashCode.",
        "Use of one object from several threads at once is not promised to be safe.",
        ", and nothing about an object after its 512th call.",
    };

    private final Map<String, StringBuilder> texts = new LinkedHashMap<>();
    private final Map<String, boolean[]> cited = new LinkedHashMap<>();

    private EachSentenceTest(List<String> lines) {
        read(lines);
        texts.forEach((part, text) -> cited.put(part, new boolean[text.length()]));
    }

    public static void main(String[] args) throws IOException {
        EachSentenceTest document = new EachSentenceTest(Files.readAllLines(DOCUMENT));
        DUE.is("the twenty promises, and what stands beside them", document.texts.size(), 21);
        for (String words : citations()) {
            DUE.yes("the document says: " + words, document.cite(words));
        }
        for (String words : FREE) {
            DUE.yes("the document says: " + words, document.cite(words));
        }
        document.eachWordIsCited();
        DUE.end();
    }

    private void read(List<String> lines) {
        String part = BESIDE_PROMISES;
        boolean face = false;
        for (String line : lines) {
            Matcher promise = PROMISE.matcher(line.replaceFirst("^## ", ""));
            if (line.startsWith("#")) {
                part = promise.matches() ? promise.group(1) : BESIDE_PROMISES;
            } else if (line.startsWith("```")) {
                face = line.equals("```java");
            } else if (!face && !line.isBlank()) {
                String words = line.strip().replaceFirst("^\\d\\. |^`[^`]*`: ", "");
                texts.computeIfAbsent(part, p -> new StringBuilder()).append(words).append(' ');
            }
        }
    }

    private static List<String> citations() throws IOException {
        List<String> all = new ArrayList<>();
        try (Stream<Path> files = Files.list(TESTS)) {
            for (Path file : files.filter(f -> f.toString().endsWith("Test.java")).sorted().toList()) {
                Matcher words = CITED.matcher(Files.readString(file));
                while (words.find()) {
                    all.add(words.group(1));
                }
            }
        }
        return all;
    }

    /** False if the words do not stand in the document, one piece between gaps behind the other. */
    private boolean cite(String words) {
        Matcher promise = PROMISE.matcher(words);
        String part = promise.matches() ? promise.group(1) : BESIDE_PROMISES;
        if (!texts.containsKey(part)) {
            return false;
        }
        String rest = promise.matches() ? words.substring(part.length() + 2) : words;
        int from = 0;
        for (String piece : rest.split(GAP)) {
            int at = texts.get(part).indexOf(piece.strip(), from);
            if (at < 0) {
                return false;
            }
            from = at + piece.strip().length();
            java.util.Arrays.fill(cited.get(part), at, from, true);
        }
        return true;
    }

    private void eachWordIsCited() {
        texts.forEach((part, text) -> {
            StringBuilder left = new StringBuilder();
            for (int i = 0; i < text.length(); i++) {
                left.append(cited.get(part)[i] ? '|' : text.charAt(i));
            }
            Matcher word = Pattern.compile("[^|]*\\w[^|]*").matcher(left);
            boolean all = true;
            while (word.find()) {
                all = false;
                DUE.yes("a test of: " + part + " " + word.group(), false);
            }
            DUE.yes("each word is cited: " + part, all);
        });
    }
}
