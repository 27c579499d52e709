import java.io.IOException;
import java.nio.file.Files;
import java.nio.file.Path;
import java.util.ArrayList;
import java.util.List;
import java.util.regex.Matcher;
import java.util.regex.Pattern;

/** Those rules of ../shared/LANGUAGE.md that can be seen in the text of the program, given as the argument. */
public final class LanguageTests {
    private static final int MOST_LINES = 60, MOST_PARAMETERS = 7, MOST_CLASSES = 12, MOST_FIELDS = 20;

    private static final String[] FORBIDDEN = {"\\bthrow\\b", "\\bthrows\\b", "\\btry\\b", "\\bcatch\\b",
        "\\bsynchronized\\b", "\\bassert\\b", "\\bimport\\b", "\\bpackage\\b", "->", "::", "\\bprotected\\b",
        "\\bstatic\\s*\\{", "\\bvar\\b", "\\bObject\\b", "\\bSystem\\.(?!arraycopy)", "\\bThread\\b",
        "\\w+Exact\\b", "\\b(equals|hashCode|toString)\\([^()]*\\) \\{", "\\bvolatile\\b", "\\bnative\\b"};

    private static final Due due = new Due("LanguageTests");

    private LanguageTests() {
    }

    public static void main(String[] args) throws IOException {
        String program = plain(Files.readString(Path.of(args[0])));
        due.in("words");
        for (String forbidden : FORBIDDEN) {
            due.is(forbidden, 0, count(program, forbidden));
        }
        due.in("size");
        due.is("too many classes", 0, Math.max(0, count(program, "\\b(class|interface|enum|record) \\w+") - MOST_CLASSES));
        due.is("too many fields", 0, Math.max(0, count(program, "(?m)^    private final [^(]*;|^    private final .*= new .*;"
            + "|^    private int \\w+;") - MOST_FIELDS));
        methods(program);
        noPrivateMethodHasAPublicName(program);
        due.end();
    }

    /** Without comments, and with nothing between quotes. */
    private static String plain(String text) {
        return text.replaceAll("(?s)/\\*.*?\\*/", "").replaceAll("//[^\n]*", "")
            .replaceAll("\"[^\"\n]*\"", "\"\"").replaceAll("'[^'\n]*'", "' '");
    }

    private static int count(String text, String pattern) {
        int count = 0;
        for (Matcher matcher = Pattern.compile(pattern).matcher(text); matcher.find();) {
            count++;
        }
        return count;
    }

    private static void methods(String program) {
        due.in("methods");
        Pattern head = Pattern.compile("(?m)^( +)(?!return|else|new)[\\w<>\\[\\] ]*?(\\w+)\\(([^()]*)\\) \\{$");
        for (Matcher matcher = head.matcher(program); matcher.find();) {
            String name = matcher.group(2);
            if (List.of("if", "for", "while", "switch").contains(name)) {
                continue;
            }
            int end = program.indexOf("\n" + matcher.group(1) + "}", matcher.end());
            long lines = program.substring(matcher.start(), end).lines().count();
            due.is(name + ": lines above " + MOST_LINES, 0, Math.max(0, lines - MOST_LINES));
            int parameters = matcher.group(3).isBlank() ? 0 : matcher.group(3).split(",").length;
            due.is(name + ": parameters above " + MOST_PARAMETERS, 0, Math.max(0, parameters - MOST_PARAMETERS));
        }
    }

    private static void noPrivateMethodHasAPublicName(String program) {
        due.in("names");
        List<String> names = new ArrayList<>();
        for (Matcher m = Pattern.compile("public (?:int|long) (\\w+)\\(").matcher(program); m.find();) {
            names.add(m.group(1));
        }
        due.is("public methods", 33, names.size());
        for (Matcher m = Pattern.compile("private [\\w\\[\\] ]*?(\\w+)\\(").matcher(program); m.find();) {
            due.is(m.group(1) + " is public too", 0, names.contains(m.group(1)) ? 1 : 0);
        }
    }
}
