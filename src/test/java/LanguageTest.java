import java.io.IOException;
import java.nio.file.Files;
import java.nio.file.Path;
import java.util.ArrayList;
import java.util.List;
import java.util.regex.Matcher;
import java.util.regex.Pattern;

/** What of LANGUAGE.md can be seen in the source without understanding it. */
public final class LanguageTest {
    private LanguageTest() {
    }

    public static void main(String[] args) throws IOException {
        String whole = Files.readString(Path.of("src/main/java/OverByTens.java"));
        String source = whole.replaceAll("(?s)/\\*.*?\\*/", "").replaceAll("//[^\n]*", "")
                .replaceAll("\"[^\"\n]*\"", "\"\"");
        String[] banned = {"\\bthrow\\b", "\\btry\\b", "\\bcatch\\b", "\\bsynchronized\\b", "\\bassert\\b", "->", "::",
            "\\bimport\\b", "\\bpackage\\b", "Exact\\b", "\\bObject\\b", "\\bInteger\\.[A-Z]", "\\bLong\\.[A-Z]",
            "\\bDouble\\b", "\\bhashCode\\b", "\\btoString\\b", "\\bRandom\\b", "\\bvar\\b", "\\bprotected\\b",
            "\\bstatic\\s*\\{"};
        for (String word : banned) {
            Matcher m = Pattern.compile(word).matcher(source);
            Check.due("the source has " + word, m.find() ? 1 : 0, 0);
        }
        Matcher called = Pattern.compile("\\b(Math|System|Arrays|Integer|Long)\\.(\\w+)").matcher(source);
        while (called.find()) {
            Check.due(called.group() + " is in the list",
                    called.group().matches("Math\\.(min|max|abs)|System\\.arraycopy") ? 1 : 0, 1);
        }
        for (int i = 0; i < whole.length(); i++) {
            if (whole.charAt(i) > 126) {
                Check.due("a sign beyond 126 at " + i, whole.charAt(i), 0);
            }
        }
        methods(source);
        Check.end("LanguageTest");
    }

    /** Methods stay short, and take seven parameters at most. */
    private static void methods(String source) {
        List<String> lines = new ArrayList<>(List.of(source.split("\n", -1)));
        Pattern head = Pattern.compile("^( {4}| {8})(public |private |static |final )*[\\w\\[\\]]+ \\w+\\(([^)]*)\\) \\{$");
        for (int i = 0; i < lines.size(); i++) {
            Matcher m = head.matcher(lines.get(i));
            if (!m.matches()) {
                continue;
            }
            int end = i;
            while (end < lines.size() && !lines.get(end).equals(m.group(1) + "}")) {
                end++;
            }
            Check.due("lines of " + lines.get(i).trim(), end - i <= 60 ? 1 : 0, 1);
            Check.due("parameters of " + lines.get(i).trim(), m.group(3).split(",").length <= 7 ? 1 : 0, 1);
        }
    }
}
