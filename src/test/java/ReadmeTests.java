import java.io.IOException;
import java.lang.reflect.Method;
import java.lang.reflect.Modifier;
import java.nio.file.Files;
import java.nio.file.Path;
import java.util.Set;
import java.util.TreeSet;
import java.util.regex.Matcher;
import java.util.regex.Pattern;

/**
 * Reads README.md, makes each call that its Java blocks show, and looks whether the answer is the one that
 * stands behind it. Its tables must name each call and each constant of the class.
 */
public final class ReadmeTests {
    private static final Path README = Path.of("README.md");
    private static final Pattern BLOCK = Pattern.compile("(?ms)^```java\\n(.*?)^```$");
    private static final String MAKING = "PeatBanks moss = new PeatBanks();";
    private static final Pattern CALL =
            Pattern.compile("moss\\.(\\w+)\\(([^)]*)\\);\\s+// (-?\\d+|[A-Z_]+)(?:: .+)?");
    private static final Pattern ROW_OF_CALL = Pattern.compile("(?m)^\\| `(\\w+)\\(([^)]*)\\)` \\|");
    private static final Pattern ROW_OF_CONSTANT = Pattern.compile("(?m)^\\| `([A-Z_]+)` \\| (-\\d+) \\|");

    private static final Set<String> SHOWN = new TreeSet<>();
    private static int wrong = 0;
    private static int calls = 0;

    public static void main(String[] args) throws IOException, ReflectiveOperationException {
        String page = Files.readString(README);
        Matcher block = BLOCK.matcher(page);
        while (block.find()) {
            runBlock(block.group(1));
        }
        expect(calls > 0, "the page shows calls");
        expect(SHOWN.equals(publicCalls()), "the page shows each call: " + SHOWN);
        tableOfCalls(page);
        tableOfConstants(page);
        System.out.println(wrong == 0 ? calls + " calls answer as the page shows" : wrong + " faults of the page");
        if (wrong != 0) {
            System.exit(1);
        }
    }

    private static void expect(boolean so, String what) {
        if (!so) {
            wrong++;
            System.out.println("not so: " + what);
        }
    }

    private static void runBlock(String block) throws ReflectiveOperationException {
        PeatBanks moss = null;
        for (String line : block.split("\n")) {
            Matcher call = CALL.matcher(line);
            if (line.equals(MAKING)) {
                moss = new PeatBanks();
            } else if (moss != null && call.matches()) {
                runCall(moss, line, call);
            } else {
                expect(false, "this line can be run: " + line);
            }
        }
    }

    private static void runCall(PeatBanks moss, String line, Matcher call) throws ReflectiveOperationException {
        Method method = methodNamed(call.group(1));
        if (method == null) {
            expect(false, "there is such a call: " + line);
            return;
        }
        int due = valueOf(call.group(3));
        int got = (int) method.invoke(moss, arguments(method, call.group(2)));
        expect(got == due, line + " (it answers " + got + ")");
        calls++;
        SHOWN.add(method.getName());
    }

    private static Object[] arguments(Method method, String written) {
        String[] words = written.isEmpty() ? new String[0] : written.split(", ");
        Class<?>[] types = method.getParameterTypes();
        Object[] arguments = new Object[words.length];
        for (int at = 0; at < words.length; at++) {
            boolean isCharacter = at < types.length && types[at] == char.class;
            arguments[at] = isCharacter ? (Object) characterOf(words[at]) : (Object) Integer.valueOf(words[at]);
        }
        return arguments;
    }

    private static char characterOf(String word) {
        boolean isWritten = word.length() == 3 && word.charAt(0) == '\'' && word.charAt(2) == '\'';
        expect(isWritten, word + " is a character");
        return isWritten ? word.charAt(1) : ' ';
    }

    private static int valueOf(String answer) throws ReflectiveOperationException {
        boolean isName = Character.isUpperCase(answer.charAt(0));
        return isName ? PeatBanks.class.getField(answer).getInt(null) : Integer.parseInt(answer);
    }

    private static Method methodNamed(String name) {
        for (Method method : PeatBanks.class.getDeclaredMethods()) {
            if (Modifier.isPublic(method.getModifiers()) && method.getName().equals(name)) {
                return method;
            }
        }
        return null;
    }

    private static Set<String> publicCalls() {
        Set<String> names = new TreeSet<>();
        for (Method method : PeatBanks.class.getDeclaredMethods()) {
            if (Modifier.isPublic(method.getModifiers())) {
                names.add(method.getName());
            }
        }
        return names;
    }

    private static void tableOfCalls(String page) {
        Set<String> told = new TreeSet<>();
        Matcher row = ROW_OF_CALL.matcher(page);
        while (row.find()) {
            Method method = methodNamed(row.group(1));
            int arguments = row.group(2).isEmpty() ? 0 : row.group(2).split(", ").length;
            expect(method != null && method.getParameterCount() == arguments, "there is such a call: " + row.group());
            expect(told.add(row.group(1)), "the table tells it once: " + row.group());
        }
        expect(told.equals(publicCalls()), "the tables tell each call: " + told);
    }

    private static void tableOfConstants(String page) throws ReflectiveOperationException {
        Set<String> told = new TreeSet<>();
        Matcher row = ROW_OF_CONSTANT.matcher(page);
        while (row.find()) {
            told.add(row.group(1));
            expect(valueOf(row.group(1)) == Integer.parseInt(row.group(2)), "the value is so: " + row.group());
        }
        expect(told.equals(new TreeSet<>(Set.of("UNKNOWN", "BAD_VALUE", "FULL", "NOT_POSSIBLE", "NONE"))),
                "the table tells each constant: " + told);
    }
}
