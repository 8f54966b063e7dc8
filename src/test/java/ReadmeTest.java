import java.lang.reflect.Method;
import java.lang.reflect.Modifier;
import java.nio.file.Files;
import java.nio.file.Path;
import java.util.Set;
import java.util.TreeSet;
import java.util.regex.Matcher;
import java.util.regex.Pattern;

/** The calls that README.md shows, each with the answer that stands behind it. */
public final class ReadmeTest {
    private static final Pattern CALL = Pattern.compile("x\\.(\\w+)\\(([^;]*)\\);");
    private static final Pattern ANSWER = Pattern.compile("// (-?\\d+|[A-Z]+)(:.*)?");
    private static final Pattern TEXT = Pattern.compile("String text = \"([^\"]*)\";");
    private static final String PER_CODE = "text.charAt(i)";

    private OwnedThings x;
    private String text = "";
    private final Set<String> called = new TreeSet<>();

    private void line(String line) throws Exception {
        Matcher told = TEXT.matcher(line);
        if (line.equals("OwnedThings x = new OwnedThings();")) {
            x = new OwnedThings();
        } else if (told.matches()) {
            text = told.group(1);
        } else if (line.startsWith("x.")) {
            calls(line);
        } else {
            // A loop over the text is run where its call stands.
            Check.same("what is no call", line.isEmpty() || line.equals("}") || line.startsWith("for (") ? "" : line, "");
        }
    }

    /** The answer is that of the last call; a comment of another form is none. */
    private void calls(String line) throws Exception {
        int comment = line.indexOf("//");
        Matcher answer = ANSWER.matcher(comment < 0 ? "" : line.substring(comment));
        String calls = comment < 0 ? line : line.substring(0, comment);
        Check.test("README: " + line);
        for (int i = 0; i < (line.contains(PER_CODE) ? text.length() : 1); i++) {
            Check.same("what is no call", calls.replaceAll(CALL.pattern(), "").trim(), "");
            long got = 0;
            Matcher call = CALL.matcher(calls);
            while (call.find()) {
                got = answer(call.group(1), call.group(2), i);
            }
            if (answer.matches()) {
                Check.due("it", got, value(answer.group(1)));
            }
        }
    }

    private long answer(String name, String arguments, int i) throws Exception {
        String[] told = arguments.isEmpty() ? new String[0] : arguments.split(", ");
        called.add(name);
        for (Method method : OwnedThings.class.getMethods()) {
            if (method.getName().equals(name) && method.getParameterCount() == told.length) {
                Object[] given = new Object[told.length];
                for (int a = 0; a < told.length; a++) {
                    given[a] = number(told[a], i);
                }
                return ((Number) method.invoke(x, given)).longValue();
            }
        }
        Check.same("no such call", name, "");
        return 0;
    }

    private int number(String argument, int i) {
        return switch (argument) {
            case "i" -> i;
            case "text.length()" -> text.length();
            case PER_CODE -> text.charAt(i);
            default -> Integer.parseInt(argument);
        };
    }

    private static long value(String answer) throws Exception {
        return Character.isLetter(answer.charAt(0))
                ? OwnedThings.class.getField(answer).getLong(null) : Long.parseLong(answer);
    }

    private void everyCall() {
        Check.test("README: shows every call");
        for (Method method : OwnedThings.class.getDeclaredMethods()) {
            if (Modifier.isPublic(method.getModifiers())) {
                Check.due(method.getName(), called.contains(method.getName()) ? 1 : 0, 1);
            }
        }
    }

    public static void main(String[] args) throws Exception {
        ReadmeTest test = new ReadmeTest();
        boolean java = false;
        for (String line : Files.readAllLines(Path.of("README.md"))) {
            if (line.startsWith("```")) {
                java = line.equals("```java");
            } else if (java) {
                test.line(line.trim());
            }
        }
        test.everyCall();
        Check.finish();
    }
}
