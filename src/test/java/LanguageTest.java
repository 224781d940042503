import java.io.IOException;
import java.nio.file.Files;
import java.nio.file.Path;
import java.util.List;
import java.util.regex.Matcher;
import java.util.regex.Pattern;

/** The rules of LANGUAGE.md that a look at the source can tell. Runs in the project's folder. */
public final class LanguageTest {
    private static final Due DUE = new Due("LanguageTest");
    private static final Path SOURCE = Path.of("src/main/java/BoughtAhead.java");
    private static final String[] WORDS = {
        "throw", "throws", "try", "catch", "synchronized", "assert", "package", "protected", "native", "volatile",
        "Object", "Thread", "Random", "nanoTime", "currentTimeMillis", "equals", "hashCode", "toString",
    };
    private static final Pattern METHOD = Pattern.compile("^ {4,8}(?:[a-zA-Z\\[\\]]+ )+\\w+\\((.*)\\) \\{$");

    public static void main(String[] args) throws IOException {
        String text = Files.readString(SOURCE);
        String code = text.replaceAll("(?s)/\\*.*?\\*/", "").replaceAll("//[^\n]*", "");
        for (String word : WORDS) {
            DUE.no("the word " + word, Pattern.compile("\\b" + word + "\\b").matcher(code).find());
        }
        for (String sign : new String[] {"->", "::", "Exact("}) {
            DUE.no("the sign " + sign, code.contains(sign));
        }
        Matcher imports = Pattern.compile("import ([^;]+);").matcher(code);
        while (imports.find()) {
            DUE.yes("import " + imports.group(1), imports.group(1).matches("java\\.util\\.(Arrays|ArrayList|List)"));
        }
        DUE.yes("characters 0 to 255 alone", text.chars().allMatch(c -> c < 256));
        Matcher statics = Pattern.compile("static (?!final |boolean \\w+\\(|int \\w+\\(|long \\w+\\(|void \\w+\\()").matcher(code);
        DUE.no("static state", statics.find());
        methods(Files.readAllLines(SOURCE));
        DUE.end();
    }

    private static void methods(List<String> lines) {
        int found = 0;
        for (int i = 0; i < lines.size(); i++) {
            Matcher m = METHOD.matcher(lines.get(i));
            if (!m.matches()) {
                continue;
            }
            found++;
            String end = lines.get(i).replaceAll("\\S.*", "") + "}";
            int last = i;
            while (!lines.get(last).equals(end)) {
                last++;
            }
            DUE.yes("line " + (i + 1) + ": at most sixty lines", last - i < 60);
            DUE.yes("line " + (i + 1) + ": at most seven parameters", m.group(1).split(",").length <= 7);
        }
        DUE.yes("methods were found", found > 50);
    }
}
