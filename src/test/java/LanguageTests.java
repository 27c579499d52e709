import java.io.IOException;
import java.lang.reflect.Field;
import java.lang.reflect.Modifier;
import java.nio.file.Files;
import java.nio.file.Path;
import java.util.ArrayList;
import java.util.List;
import java.util.Set;
import java.util.TreeSet;
import java.util.regex.Matcher;
import java.util.regex.Pattern;

/** Those rules of ../shared/LANGUAGE.md that can be seen in the program, given as the argument, by their numbers. */
public final class LanguageTests {
    private static final int MOST_LINES = 60, MOST_PARAMETERS = 7, MOST_CLASSES = 12, MOST_FIELDS = 20;

    /** What the program may use of the library: all that it needs of what rule 4 leaves. */
    private static final Set<String> LIBRARY = Set.of("Math.max", "Math.min", "Integer.bitCount", "System.arraycopy",
        "Long.MIN_VALUE");
    /** The methods that may make an object or an array, beside constructors. */
    private static final Set<String> MAKERS = Set.of("sheet", "madeWork");

    private static final Pattern HEAD =
        Pattern.compile("(?m)^( +)(?!return|else|new)([\\w<>\\[\\] ]*?)(\\w+)\\(([^()]*)\\) \\{$");

    private static final Due due = new Due("LanguageTests");

    private LanguageTests() {
    }

    public static void main(String[] args) throws IOException {
        String program = plain(Files.readString(Path.of(args[0])));
        List<Class<?>> classes = new ArrayList<>();
        takeIn(TideWheels.class, classes);
        theFace(program);
        classesInside(program, classes);
        typesAndLibrary(program, classes);
        staticFields(classes);
        words(program);
        loops(program);
        sizes(program, classes);
        whatIsMade(program);
        due.end();
    }

    private static void takeIn(Class<?> type, List<Class<?>> classes) {
        classes.add(type);
        for (Class<?> part : type.getDeclaredClasses()) {
            takeIn(part, classes);
        }
    }

    /** Without comments, and with nothing between quotes. */
    private static String plain(String text) {
        return text.replaceAll("(?s)/\\*.*?\\*/", "").replaceAll("//[^\n]*", "")
            .replaceAll("\"[^\"\n]*\"", "\"\"").replaceAll("'[^'\n]*'", "' '");
    }

    private static List<String> found(String text, String pattern, int group) {
        List<String> found = new ArrayList<>();
        for (Matcher matcher = Pattern.compile(pattern).matcher(text); matcher.find();) {
            found.add(matcher.group(group));
        }
        return found;
    }

    private static void none(String text, String pattern) {
        due.is(pattern, 0, found(text, pattern, 0).size());
    }

    private static void theFace(String program) {
        due.in("rule 1");
        none(program, "\\bpackage\\b");
        none(program, "\\bprotected\\b");
        List<String> names = found(program, "public (?:int|long) (\\w+)\\(", 1);
        due.is("public methods", 33, names.size());
        for (String name : found(program, "private [\\w\\[\\] ]*?(\\w+)\\(", 1)) {
            due.is(name + " is public too", 0, names.contains(name) ? 1 : 0);
        }
    }

    private static void classesInside(String program, List<Class<?>> classes) {
        due.in("rule 2");
        none(program, "->");
        none(program, "::");
        none(program, "\\bnew \\w+\\([^;{]*\\) \\{");
        due.is("local or anonymous classes", classes.size(),
            found(program, "\\b(class|interface|enum|record) \\w+", 0).size());
        for (Class<?> part : classes.subList(1, classes.size())) {
            due.is(part + " is static", Modifier.STATIC, part.getModifiers() & Modifier.STATIC);
        }
    }

    private static void typesAndLibrary(String program, List<Class<?>> classes) {
        due.in("rules 3, 4, 13");
        none(program, "\\bimport\\b");
        none(program, "\\[\\] ?\\[\\]|\\]\\[");
        none(program, "\\b(var|double|float|long\\[\\]|Object)\\b");
        Set<String> own = new TreeSet<>();
        for (Class<?> part : classes) {
            own.add(part.getSimpleName());
        }
        for (String word : found(program, "\\b[A-Z]\\w*[a-z]\\w*(\\.\\w+)?", 0)) {
            due.is(word + " is neither its own nor of the library", 1,
                own.contains(word) || LIBRARY.contains(word) ? 1 : 0);
        }
    }

    private static void staticFields(List<Class<?>> classes) {
        due.in("rule 5");
        for (Class<?> part : classes) {
            for (Field field : part.getDeclaredFields()) {
                if (Modifier.isStatic(field.getModifiers())) {
                    due.is(field + " is final", Modifier.FINAL, field.getModifiers() & Modifier.FINAL);
                    due.is(field + " is a number", 1, field.getType().isPrimitive() ? 1 : 0);
                }
            }
        }
    }

    private static void words(String program) {
        due.in("rule 6");
        for (String word : new String[] {"throw", "throws", "try", "catch", "finally", "synchronized", "assert",
            "volatile", "native", "transient", "equals", "hashCode", "toString"}) {
            none(program, "\\b" + word + "\\b");
        }
        none(program, "\\bstatic\\s*\\{");
    }

    private static void loops(String program) {
        due.in("rules 9, 10");
        none(program, "\\bwhile \\((true|1)");
        none(program, "\\bfor \\([^;]*; *;");
        none(program, "\\bgoto\\b");
        none(program, "\"");
    }

    private static void sizes(String program, List<Class<?>> classes) {
        due.in("rule 11");
        due.is("classes above " + MOST_CLASSES, 0, Math.max(0, classes.size() - MOST_CLASSES));
        for (Class<?> part : classes) {
            int fields = 0;
            for (Field field : part.getDeclaredFields()) {
                fields += Modifier.isStatic(field.getModifiers()) ? 0 : 1;
            }
            due.is(part + ": fields above " + MOST_FIELDS, 0, Math.max(0, fields - MOST_FIELDS));
        }
        for (Matcher head = HEAD.matcher(program); head.find();) {
            if (isMethod(head)) {
                long lines = body(program, head).lines().count();
                due.is(head.group(3) + ": lines above " + MOST_LINES, 0, Math.max(0, lines - MOST_LINES));
                int parameters = head.group(4).isBlank() ? 0 : head.group(4).split(",").length;
                due.is(head.group(3) + ": parameters above " + MOST_PARAMETERS, 0,
                    Math.max(0, parameters - MOST_PARAMETERS));
            }
        }
    }

    private static boolean isMethod(Matcher head) {
        return !List.of("if", "for", "while", "switch").contains(head.group(3));
    }

    private static String body(String program, Matcher head) {
        return program.substring(head.start(), program.indexOf("\n" + head.group(1) + "}", head.end()));
    }

    private static void whatIsMade(String program) {
        due.in("rule 12");
        int made = 0;
        for (Matcher head = HEAD.matcher(program); head.find();) {
            int news = isMethod(head) ? found(body(program, head), "\\bnew\\b", 0).size() : 0;
            boolean isConstructor = Character.isUpperCase(head.group(3).charAt(0));
            if (!isConstructor && !MAKERS.contains(head.group(3))) {
                due.is(head.group(3) + " makes objects or arrays", 0, news);
            }
            made += news;
        }
        due.is("rows and works are made", 1, made > 0 ? 1 : 0);
    }
}
