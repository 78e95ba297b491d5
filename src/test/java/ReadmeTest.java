import java.io.IOException;
import java.lang.reflect.Method;
import java.lang.reflect.Modifier;
import java.net.URL;
import java.net.URLClassLoader;
import java.nio.file.DirectoryStream;
import java.nio.file.Files;
import java.nio.file.Path;
import java.util.ArrayList;
import java.util.List;
import java.util.regex.Matcher;
import java.util.regex.Pattern;
import javax.tools.JavaCompiler;
import javax.tools.ToolProvider;

/** README.md's code compiles, each call in it answers as it says there, and it leaves out no call and no test. */
public final class ReadmeTest {
    private static final Pattern BLOCK = Pattern.compile("(?s)```java\n(.*?)```");
    private static final Pattern CALL = Pattern.compile("((?:x\\.\\w+|lay)\\(.*\\)); +// (-?[0-9]+)\\b.*");
    private static final Pattern NEW = Pattern.compile("(OverByTens )?x = new OverByTens\\(\\);");

    private final List<String> calls = new ArrayList<>();
    private final List<Long> answers = new ArrayList<>();
    private final StringBuilder members = new StringBuilder();
    private final StringBuilder body = new StringBuilder();

    private ReadmeTest() {
    }

    public static void main(String[] args) throws IOException, ReflectiveOperationException {
        String page = Files.readString(Path.of("README.md"));
        ReadmeTest test = new ReadmeTest();
        Matcher blocks = BLOCK.matcher(page);
        while (blocks.find()) {
            test.take(blocks.group(1));
        }
        test.answersAreAsShown();
        test.everyCallIsShown();
        everyTestIsListed(page);
        Check.end("ReadmeTest");
    }

    private void take(String block) {
        if (block.startsWith("static ")) {
            members.append(block);
            return;
        }
        for (String line : block.split("\n")) {
            Matcher call = CALL.matcher(line);
            if (call.matches()) {
                body.append("got[").append(calls.size()).append("] = ").append(call.group(1)).append(";\n");
                calls.add(call.group(1));
                answers.add(Long.parseLong(call.group(2)));
            } else {
                Check.due("README: a new object, or a call with its answer: " + line, shows(NEW, line), 1);
                body.append(line).append('\n');
            }
        }
    }

    private static int shows(Pattern what, String line) {
        return what.matcher(line).matches() ? 1 : 0;
    }

    private void answersAreAsShown() throws IOException, ReflectiveOperationException {
        Check.due("README: some calls are shown", calls.isEmpty() ? 0 : 1, 1);
        Path folder = Files.createTempDirectory("readme");
        Path source = folder.resolve("Shown.java");
        Files.writeString(source, "public final class Shown {\n" + members + "public static long[] answers() {\n"
                + "long[] got = new long[" + calls.size() + "];\n" + body + "return got;\n}\n}\n");
        JavaCompiler compiler = ToolProvider.getSystemJavaCompiler();
        int failed = compiler.run(null, null, null, "-cp", System.getProperty("java.class.path"),
                "-d", folder.toString(), source.toString());
        Check.due("README: its code compiled", failed, 0);
        if (failed == 0) {
            compare(folder);
        }
        Files.deleteIfExists(folder.resolve("Shown.class"));
        Files.delete(source);
        Files.delete(folder);
    }

    private void compare(Path folder) throws IOException, ReflectiveOperationException {
        try (URLClassLoader loader = new URLClassLoader(new URL[] {folder.toUri().toURL()})) {
            long[] got = (long[]) loader.loadClass("Shown").getMethod("answers").invoke(null);
            for (int i = 0; i < got.length; i++) {
                Check.due("README: " + calls.get(i), got[i], answers.get(i));
            }
        }
    }

    private void everyCallIsShown() {
        for (Method m : OverByTens.class.getDeclaredMethods()) {
            if (Modifier.isPublic(m.getModifiers())) {
                long shown = calls.stream().filter(call -> call.startsWith("x." + m.getName() + "(")).count();
                Check.due("README: " + m.getName() + " is shown", shown > 0 ? 1 : 0, 1);
            }
        }
    }

    private static void everyTestIsListed(String page) throws IOException {
        try (DirectoryStream<Path> tests = Files.newDirectoryStream(Path.of("src/test/java"), "*Test.java")) {
            for (Path test : tests) {
                String name = test.getFileName().toString().replace(".java", "");
                Check.due("README: " + name + " is listed", page.contains("| `" + name + "` |") ? 1 : 0, 1);
            }
        }
    }
}
