import java.io.IOException;
import java.lang.reflect.Method;
import java.lang.reflect.Modifier;
import java.net.URL;
import java.net.URLClassLoader;
import java.nio.file.Files;
import java.nio.file.Path;
import java.util.ArrayList;
import java.util.List;
import java.util.Set;
import java.util.TreeSet;
import java.util.regex.Matcher;
import java.util.regex.Pattern;
import java.util.stream.Collectors;
import java.util.stream.Stream;
import javax.tools.ToolProvider;

/** README.md is as things are now: its example answers as it says, its tables name all calls and all tests. */
public final class ReadmeTests {
    /** A call of the example with the number that it answers. */
    private static final Pattern ANSWERED = Pattern.compile("(?m)^(x\\.\\w+\\([^;]*\\)); +// (-?\\d+)");

    private static final Due due = new Due("ReadmeTests");

    private ReadmeTests() {
    }

    public static void main(String[] args) throws IOException, ReflectiveOperationException {
        String page = Files.readString(Path.of("README.md"));
        example(page);
        calls(page);
        tests(page);
        due.end();
    }

    private static List<String> found(Pattern pattern, String text, int group) {
        List<String> found = new ArrayList<>();
        for (Matcher matcher = pattern.matcher(text); matcher.find();) {
            found.add(matcher.group(group));
        }
        return found;
    }

    private static String between(String text, String start, String end) {
        int from = text.indexOf(start) + start.length();
        return text.substring(from, text.indexOf(end, from));
    }

    private static void example(String page) throws IOException, ReflectiveOperationException {
        due.in("example");
        String code = between(page, "```java\n", "```");
        List<String> calls = found(ANSWERED, code, 1);
        List<String> dues = found(ANSWERED, code, 2);
        List<?> answers = (List<?>) compiled(ANSWERED.matcher(code).replaceAll("answers.add((long) $1); // $2"))
            .getMethod("answers").invoke(null);
        due.is("how many answers", calls.size(), answers.size());
        for (int c = 0; c < answers.size(); c++) {
            due.is(calls.get(c), Long.parseLong(dues.get(c)), (Long) answers.get(c));
        }
    }

    private static Class<?> compiled(String code) throws IOException, ReflectiveOperationException {
        Path folder = Files.createDirectories(Path.of("build", "readme"));
        Path file = folder.resolve("ReadmeExample.java");
        Files.writeString(file, "public final class ReadmeExample {\n"
            + "public static java.util.List<Long> answers() {\n"
            + "java.util.List<Long> answers = new java.util.ArrayList<>();\n" + code + "return answers;\n}\n}\n");
        due.is("compiles", 0, ToolProvider.getSystemJavaCompiler().run(null, null, null, "--release", "17",
            "-cp", System.getProperty("java.class.path"), "-d", folder.toString(), file.toString()));
        return new URLClassLoader(new URL[] {folder.toUri().toURL()}).loadClass("ReadmeExample");
    }

    /** The names in the first column, or in all, of the table below a head. */
    private static Set<String> named(String page, String head, boolean isFirst) {
        String table = between(page, head + "\n", "\n\n");
        String rows = isFirst ? table.replaceAll("(?m)^(\\| [^|]* \\|).*$", "$1") : table;
        return new TreeSet<>(found(Pattern.compile("`(\\w+)`"), rows, 1));
    }

    private static void same(Set<String> wanted, Set<String> found) {
        for (String name : wanted) {
            due.is(name + " is named", 1, found.contains(name) ? 1 : 0);
        }
        for (String name : found) {
            due.is(name + " is there", 1, wanted.contains(name) ? 1 : 0);
        }
    }

    private static void calls(String page) {
        due.in("table of calls");
        Set<String> calls = new TreeSet<>();
        for (Method method : TideWheels.class.getDeclaredMethods()) {
            if (Modifier.isPublic(method.getModifiers())) {
                calls.add(method.getName());
            }
        }
        same(calls, named(page, "| part | calls |", false));
    }

    private static void tests(String page) throws IOException {
        due.in("table of tests");
        try (Stream<Path> files = Files.list(Path.of("src/test/java"))) {
            Set<String> tests = files.map(file -> file.getFileName().toString())
                .filter(name -> name.endsWith("Tests.java"))
                .map(name -> name.substring(0, name.length() - ".java".length()))
                .collect(Collectors.toCollection(TreeSet::new));
            same(tests, named(page, "| test | what it looks at |", true));
        }
    }
}
