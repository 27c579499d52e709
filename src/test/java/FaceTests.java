import java.io.IOException;
import java.lang.reflect.Constructor;
import java.lang.reflect.Field;
import java.lang.reflect.Member;
import java.lang.reflect.Method;
import java.lang.reflect.Modifier;
import java.nio.file.Files;
import java.nio.file.Path;
import java.util.Arrays;
import java.util.Set;
import java.util.TreeSet;
import java.util.stream.Collectors;

/** The public face is the document's, in the program (given as the argument) as well; nothing else can be seen. */
public final class FaceTests {
    /** The document's lines, with what the interface says ahead of calls. */
    private static final String[] LINES = {
        "public final class TideWheels {",
        "public static final int UNKNOWN = -1, OUTSIDE = -2, STATE = -3, FULL = -4, NONE = -9;",
        "public static final long LOST = Long.MIN_VALUE;",
        "public TideWheels() {",
        "// ---- 1 the town",
        "public int town(int sheet, int lane, int i, int n) {",
        "public int ofWork(int k, int what) {",
        "public int law(int v) {",
        "public int start(int v) {",
        "public int hook(int k, boolean is) {",
        "public int storm(int hour, int v) {",
        "public int calm(int k) {",
        "// ---- 2 hours",
        "public int strength(int hour) {",
        "public int goes(int hour) {",
        "public int late(int k, int hour) {",
        "public int all(int hour) {",
        "public int alike(int hour) {",
        "// ---- 3 hooks, storms",
        "public int fewest(int k, int from, int to) {",
        "public int help(int v, int what) {",
        "public int plan(int sheet, int lane, int i, int n) {",
        "// ---- 4 how late works were",
        "public int reading(int k, int hour, int late) {",
        "public int back(int k) {",
        "public int starts() {",
        "public int laws() {",
        "public int hung() {",
        "public int freed() {",
        "public long odds(int k, int hour, int which) {",
        "// ---- 5 sheets, parts",
        "public int sheet(int k, int lane, int n) {",
        "public int lose(int k) {",
        "public int put(int k, int i, int v) {",
        "public long cell(int k, int i, int lane) {",
        "public int copy(int k, int i, int other, int j, int n) {",
        "public int tell(int k) {",
        "public int ring(int k) {",
        "public int as(int k, int kind) {",
        "public int trace() {",
        "public int fault() {",
        "public int many(int what) {"};

    private static final String[] METHODS = {
        "int town(int, int, int, int)", "int ofWork(int, int)", "int law(int)", "int start(int)",
        "int hook(int, boolean)", "int storm(int, int)", "int calm(int)", "int strength(int)", "int goes(int)",
        "int late(int, int)", "int all(int)", "int alike(int)", "int fewest(int, int, int)", "int help(int, int)",
        "int plan(int, int, int, int)", "int reading(int, int, int)", "int back(int)", "int starts()", "int laws()",
        "int hung()", "int freed()", "long odds(int, int, int)", "int sheet(int, int, int)", "int lose(int)",
        "int put(int, int, int)", "long cell(int, int, int)", "int copy(int, int, int, int, int)", "int tell(int)",
        "int ring(int)", "int as(int, int)", "int trace()", "int fault()", "int many(int)"};

    private static final Due due = new Due("FaceTests");

    private FaceTests() {
    }

    public static void main(String[] args) throws IOException {
        lines(Files.readString(Path.of(args[0])));
        methods();
        constructors();
        constants();
        parts();
        due.end();
    }

    private static void lines(String program) {
        due.in("the document's lines, each once and one behind another");
        int ahead = -1;
        for (String line : LINES) {
            int place = program.indexOf(line);
            due.is(line, 1, place > ahead ? 1 : 0);
            due.is(line + " a second time", -1, place < 0 ? -1 : program.indexOf(line, place + 1));
            ahead = Math.max(ahead, place);
        }
    }

    private static void methods() {
        due.in("methods");
        Set<String> found = new TreeSet<>();
        for (Method method : TideWheels.class.getDeclaredMethods()) {
            if (isSeen(method)) {
                found.add(told(method));
                due.is(method.getName() + " of an object", 0, method.getModifiers() & Modifier.STATIC);
            }
        }
        same(new TreeSet<>(Arrays.asList(METHODS)), found);
    }

    private static void constructors() {
        due.in("constructors");
        for (Constructor<?> constructor : TideWheels.class.getDeclaredConstructors()) {
            due.is("public", Modifier.PUBLIC, constructor.getModifiers());
            due.is("how many parameters", 0, constructor.getParameterCount());
        }
    }

    private static void constants() {
        due.in("constants");
        due.is("UNKNOWN", -1, TideWheels.UNKNOWN);
        due.is("OUTSIDE", -2, TideWheels.OUTSIDE);
        due.is("STATE", -3, TideWheels.STATE);
        due.is("FULL", -4, TideWheels.FULL);
        due.is("NONE", -9, TideWheels.NONE);
        due.is("LOST", Long.MIN_VALUE, TideWheels.LOST);
        Set<String> found = new TreeSet<>();
        for (Field field : TideWheels.class.getDeclaredFields()) {
            if (isSeen(field)) {
                found.add(field.getType() + " " + field.getName());
                due.is(field.getName(), Modifier.PUBLIC | Modifier.STATIC | Modifier.FINAL, field.getModifiers());
            }
        }
        same(new TreeSet<>(Arrays.asList("int UNKNOWN", "int OUTSIDE", "int STATE", "int FULL", "int NONE",
            "long LOST")), found);
    }

    private static void parts() {
        due.in("classes inside");
        due.is("public and final", Modifier.PUBLIC | Modifier.FINAL, TideWheels.class.getModifiers());
        due.is("above it", 1, TideWheels.class.getSuperclass() == Object.class ? 1 : 0);
        due.is("interfaces", 0, TideWheels.class.getInterfaces().length);
        for (Class<?> part : TideWheels.class.getDeclaredClasses()) {
            due.is(part + " is static", Modifier.STATIC, part.getModifiers() & Modifier.STATIC);
            due.is(part + " is not public", 0, part.getModifiers() & (Modifier.PUBLIC | Modifier.PROTECTED));
        }
    }

    private static boolean isSeen(Member member) {
        return !Modifier.isPrivate(member.getModifiers());
    }

    private static String told(Method method) {
        String parameters = Arrays.stream(method.getParameterTypes()).map(Class::getName)
            .collect(Collectors.joining(", "));
        return method.getReturnType() + " " + method.getName() + "(" + parameters + ")";
    }

    private static void same(Set<String> wanted, Set<String> found) {
        for (String name : wanted) {
            due.is(name, 1, found.contains(name) ? 1 : 0);
        }
        for (String name : found) {
            due.is(name, 1, wanted.contains(name) ? 1 : 0);
        }
    }
}
