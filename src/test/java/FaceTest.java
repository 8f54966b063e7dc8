import java.lang.reflect.Constructor;
import java.lang.reflect.Field;
import java.lang.reflect.Method;
import java.lang.reflect.Modifier;
import java.nio.file.Files;
import java.nio.file.Path;
import java.util.Map;
import java.util.Set;
import java.util.TreeMap;
import java.util.TreeSet;
import java.util.regex.Matcher;
import java.util.regex.Pattern;

/** The public face, word for word, and those rules of the language that a text shows. */
public final class FaceTest {
    private static final String[] FACE = {
        "int things(int,int,int,int)", "int ofThing(int,int)", "int refers(int,int)", "int place(int,int)",
        "int refer(int,int)", "int own(int,int)", "int hand(int,int)", "int day(int,int,int,int,int)",
        "int unlawful()", "int past(int,int)", "int locks(int,int,int,int)", "int reading(int,int,int)",
        "int back(int)", "int kinds(int)", "int owners(int)", "long odds(int)", "int sheet(int,int,int)",
        "int lose(int)", "int put(int,int,int)", "long cell(int,int,int)", "int copy(int,int,int,int,int)",
        "int tell(int)", "int hail(int)", "int as(int,int)", "int trace()", "int fault()", "int many(int)",
    };
    private static final String[] CONSTANTS = {"UNKNOWN", "OUTSIDE", "STATE", "FULL", "NONE", "LOST"};
    private static final String[] FORBIDDEN = {
        "throw", "try", "catch", "synchronized", "assert", "import", "package", "->", "::", "record ", "Exact",
        "System.out", "Random", "nanoTime", "@",
    };

    private static void members() {
        Check.test("the public face, word for word");
        Set<String> due = new TreeSet<>(Set.of(FACE));
        Set<String> got = new TreeSet<>();
        for (Method method : OwnedThings.class.getDeclaredMethods()) {
            if (Modifier.isPublic(method.getModifiers()) && !Modifier.isStatic(method.getModifiers())) {
                got.add(told(method));
            } else {
                Check.due(method + " is private", Modifier.isPrivate(method.getModifiers()) ? 1 : 0, 1);
                Check.due(method + " bears a name of its own", isOfFace(method.getName()) ? 1 : 0, 0);
            }
        }
        Check.due("public methods are " + got, got.equals(due) ? 1 : 0, 1);
        Constructor<?>[] constructors = OwnedThings.class.getDeclaredConstructors();
        Check.due("one constructor", constructors.length, 1);
        Check.due("a public one", Modifier.isPublic(constructors[0].getModifiers()) ? 1 : 0, 1);
        Check.due("without parameters", constructors[0].getParameterCount(), 0);
        int type = OwnedThings.class.getModifiers();
        Check.due("public final class", Modifier.isPublic(type) && Modifier.isFinal(type) ? 1 : 0, 1);
    }

    private static String told(Method method) {
        StringBuilder text = new StringBuilder(method.getReturnType().getName() + " " + method.getName() + "(");
        for (Class<?> type : method.getParameterTypes()) {
            text.append(text.charAt(text.length() - 1) == '(' ? "" : ",").append(type.getName());
        }
        return text.append(")").toString();
    }

    private static boolean isOfFace(String name) {
        for (String member : FACE) {
            if (member.contains(" " + name + "(")) {
                return true;
            }
        }
        return false;
    }

    private static void fields() {
        Check.test("the constants; no static state");
        Set<String> due = Set.of(CONSTANTS);
        int seen = 0;
        for (Field field : OwnedThings.class.getDeclaredFields()) {
            int how = field.getModifiers();
            if (due.contains(field.getName())) {
                seen++;
                boolean constant = Modifier.isPublic(how) && Modifier.isStatic(how) && Modifier.isFinal(how);
                Check.due(field + " is a public constant", constant ? 1 : 0, 1);
            } else {
                Check.due(field + " is private", Modifier.isPrivate(how) ? 1 : 0, 1);
                Check.due(field + " is no static state", Modifier.isStatic(how) && !Modifier.isFinal(how) ? 1 : 0, 0);
            }
        }
        Check.due("constants", seen, CONSTANTS.length);
        Check.due("UNKNOWN", OwnedThings.UNKNOWN, -1);
        Check.due("OUTSIDE", OwnedThings.OUTSIDE, -2);
        Check.due("STATE", OwnedThings.STATE, -3);
        Check.due("FULL", OwnedThings.FULL, -4);
        Check.due("NONE", OwnedThings.NONE, -9);
        Check.due("LOST", OwnedThings.LOST, Long.MIN_VALUE);
    }

    private static void classesInside() {
        Check.test("classes inside are static, and some twelve at most");
        Class<?>[] inside = OwnedThings.class.getDeclaredClasses();
        Check.due("some twelve classes at most", inside.length <= 11 ? 1 : 0, 1);
        for (Class<?> type : inside) {
            Check.due(type + " is static", Modifier.isStatic(type.getModifiers()) ? 1 : 0, 1);
            Check.due(type + " is not public", Modifier.isPublic(type.getModifiers()) ? 1 : 0, 0);
            for (Method method : type.getDeclaredMethods()) {
                Check.due(method + " bears a name of its own", isOfFace(method.getName()) ? 1 : 0, 0);
            }
        }
    }

    private static void sizes() {
        Check.test("seven parameters at most, some twenty fields");
        sizesOf(OwnedThings.class);
        for (Class<?> type : OwnedThings.class.getDeclaredClasses()) {
            sizesOf(type);
        }
    }

    private static void sizesOf(Class<?> type) {
        int fields = 0;
        for (Field field : type.getDeclaredFields()) {
            fields += Modifier.isStatic(field.getModifiers()) ? 0 : 1;
        }
        Check.due(type + " has some twenty fields at most", fields <= 20 ? 1 : 0, 1);
        for (Method method : type.getDeclaredMethods()) {
            Check.due(method + " takes seven parameters at most", method.getParameterCount() <= 7 ? 1 : 0, 1);
        }
    }

    private static void methodLengths(String source) {
        Check.test("methods have some sixty lines at most");
        int open = -1;
        String[] lines = source.split("\n");
        for (int at = 0; at < lines.length; at++) {
            if (lines[at].matches("( {4}| {8})\\S.*\\) \\{")) {
                open = at;
            } else if (open >= 0 && lines[at].matches("( {4}| {8})\\}")) {
                Check.due("lines of " + lines[open].trim(), at - open < 60 ? 1 : 0, 1);
                open = -1;
            }
        }
    }

    /** Whom each method calls, by names alone; methods of one name count as one. */
    private static Map<String, Set<String>> callsOf(String code) {
        Pattern begin = Pattern.compile("( {4}| {8})[^ ={}][^={}]*\\b(\\w+)\\([^()]*\\) \\{");
        Pattern call = Pattern.compile("\\b(\\w+)\\(");
        Map<String, Set<String>> calls = new TreeMap<>();
        Set<String> ofThis = new TreeSet<>();
        for (String line : code.split("\n")) {
            Matcher method = begin.matcher(line);
            if (method.matches()) {
                ofThis = calls.computeIfAbsent(method.group(2), name -> new TreeSet<>());
                continue;
            }
            Matcher called = call.matcher(line);
            while (called.find()) {
                ofThis.add(called.group(1));
            }
        }
        return calls;
    }

    private static int depthOf(String name, Map<String, Set<String>> calls, int limit) {
        int deepest = 0;
        if (limit > 0) {
            for (String called : calls.get(name)) {
                if (calls.containsKey(called)) {
                    deepest = Math.max(deepest, depthOf(called, calls, limit - 1));
                }
            }
        }
        return deepest + 1;
    }

    private static void callDepths(String code) {
        Check.test("calls go at most eight deep");
        Map<String, Set<String>> calls = callsOf(code);
        for (Class<?> type : OwnedThings.class.getDeclaredClasses()) {
            for (Method method : type.getDeclaredMethods()) {
                Check.due(method + " is seen", calls.containsKey(method.getName()) ? 1 : 0, 1);
            }
        }
        Check.due("what is seen of things", depthOf("things", calls, 9) > 4 ? 1 : 0, 1);
        for (String name : calls.keySet()) {
            Check.due("depth of " + name, depthOf(name, calls, 9) <= 8 ? 1 : 0, 1);
        }
    }

    private static void text() throws Exception {
        String source = Files.readString(Path.of("src/main/java/OwnedThings.java"));
        methodLengths(source);
        // What comments say does not count.
        String code = source.replaceAll("(?s)/\\*.*?\\*/", "").replaceAll("//[^\n]*", "");
        callDepths(code);
        Check.test("words that the rules leave out, signs beyond ASCII");
        for (String word : FORBIDDEN) {
            Check.due("without " + word, code.contains(word) ? 1 : 0, 0);
        }
        Check.due("ASCII alone", source.chars().allMatch(c -> c < 128) ? 1 : 0, 1);
    }

    public static void main(String[] args) throws Exception {
        members();
        fields();
        classesInside();
        sizes();
        text();
        Check.finish();
    }
}
