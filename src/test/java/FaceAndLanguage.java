import java.io.IOException;
import java.lang.reflect.Constructor;
import java.lang.reflect.Field;
import java.lang.reflect.Method;
import java.lang.reflect.Modifier;
import java.nio.file.Files;
import java.nio.file.Path;
import java.util.ArrayList;
import java.util.List;
import java.util.Set;
import java.util.TreeSet;
import java.util.regex.Matcher;
import java.util.regex.Pattern;

/** The public face is the document's and no more, and the source keeps to the rules that a search can see. */
public final class FaceAndLanguage {
    private static final Path SOURCE = Path.of("src/main/java/PeatBanks.java");

    private static final Set<String> FACE = new TreeSet<>(List.of(
            "lend(int,int)", "handOver(int,int)", "setDays(int,int)", "set(int,int)",
            "cut(int,int)", "turn(int)", "stack(int)", "pass(int)", "passAll()", "settle()", "endYear()",
            "type(char)", "clearText()", "undo()", "keep()", "restore()",
            "commoner(int,int)", "plot(int,int)", "row(int,int)", "driest(int,int)", "why(int,int)",
            "dispute(int,int)", "cart(int)", "would(int,int)", "count(int)"));

    private static final List<String> FORBIDDEN = List.of(
            "\\bthrow\\b", "\\bthrows\\b", "\\btry\\b", "\\bcatch\\b", "\\bsynchronized\\b", "\\bassert\\b",
            "\\bimport\\b", "\\bpackage\\b", "\\bprotected\\b", "->", "::", "\\bvar\\b", "\\binstanceof\\b",
            "static\\s*\\{", "\\b\\w+Exact\\b", "\\bSystem\\.(?!arraycopy\\b)", "\"",
            "\\bequals\\b", "\\bhashCode\\b", "\\btoString\\b");

    private static final List<String> ORDER = List.of(
            "---- rights", "lend", "handOver", "setDays", "set",
            "---- work", "cut", "turn", "stack", "pass", "passAll", "settle", "endYear",
            "---- texts", "type", "clearText",
            "---- history", "undo", "keep", "restore",
            "---- what is told", "commoner", "plot", "row", "driest", "why", "dispute", "cart", "would", "count");

    private static int wrong = 0;

    private static void expect(boolean so, String what) {
        if (!so) {
            wrong++;
            System.out.println("not so: " + what);
        }
    }

    public static void main(String[] args) throws IOException {
        face();
        classesInside();
        order(Files.readString(SOURCE));
        String code = Files.readString(SOURCE).replaceAll("(?s)/\\*.*?\\*/", "").replaceAll("//.*", "");
        for (String forbidden : FORBIDDEN) {
            Matcher matcher = Pattern.compile(forbidden).matcher(code);
            expect(!matcher.find(), "the source is without " + forbidden);
        }
        System.out.println(wrong == 0 ? "the face and the language are as due" : wrong + " faults");
        if (wrong != 0) {
            System.exit(1);
        }
    }

    private static void face() {
        Class<?> face = PeatBanks.class;
        expect(Modifier.isPublic(face.getModifiers()) && Modifier.isFinal(face.getModifiers()),
                "PeatBanks is public and final");
        Set<String> found = new TreeSet<>();
        Set<String> publicNames = new TreeSet<>();
        for (Method method : face.getDeclaredMethods()) {
            if (Modifier.isPublic(method.getModifiers())) {
                expect(method.getReturnType() == int.class, method + " answers an int");
                expect(!Modifier.isStatic(method.getModifiers()), method + " is not static");
                found.add(signature(method));
                publicNames.add(method.getName());
            } else {
                expect(Modifier.isPrivate(method.getModifiers()) || method.isSynthetic(), method + " is private");
            }
        }
        expect(found.equals(FACE), "the public methods are the document's: " + found);
        for (Method method : face.getDeclaredMethods()) {
            expect(Modifier.isPublic(method.getModifiers()) || !publicNames.contains(method.getName()),
                    method + " bears no name of a public one");
        }
        Constructor<?>[] constructors = face.getDeclaredConstructors();
        expect(constructors.length == 1 && constructors[0].getParameterCount() == 0
                && Modifier.isPublic(constructors[0].getModifiers()), "there is one public constructor");
        int constants = 0;
        for (Field field : face.getDeclaredFields()) {
            if (Modifier.isPublic(field.getModifiers())) {
                constants++;
            } else {
                expect(Modifier.isPrivate(field.getModifiers()) || field.isSynthetic(), field + " is private");
            }
            expect(!Modifier.isStatic(field.getModifiers()) || Modifier.isFinal(field.getModifiers()),
                    field + " is final, as it is static");
        }
        expect(constants == 5, "there are five public constants");
    }

    /** "Ahead of the calls .. the interface says": the headings and the calls stand in the document's order. */
    private static void order(String source) {
        List<String> found = new ArrayList<>();
        Matcher matcher = Pattern.compile("(?m)^    // (---- .*)$|^    public int (\\w+)\\(").matcher(source);
        while (matcher.find() && found.size() < ORDER.size()) {
            found.add(matcher.group(1) == null ? matcher.group(2) : matcher.group(1));
        }
        expect(found.equals(ORDER), "the headings and calls stand in the document's order: " + found);
    }

    private static String signature(Method method) {
        StringBuilder text = new StringBuilder(method.getName()).append('(');
        for (Class<?> type : method.getParameterTypes()) {
            text.append(text.charAt(text.length() - 1) == '(' ? "" : ",").append(type.getName());
        }
        return text.append(')').toString();
    }

    private static void classesInside() {
        Class<?>[] inside = PeatBanks.class.getDeclaredClasses();
        expect(inside.length < 12, "there are at most twelve classes");
        for (Class<?> each : inside) {
            expect(Modifier.isStatic(each.getModifiers()), each + " is static");
            expect(!Modifier.isPublic(each.getModifiers()), each + " is not public");
            for (Field field : each.getDeclaredFields()) {
                expect(!Modifier.isStatic(field.getModifiers()) || Modifier.isFinal(field.getModifiers()),
                        field + " is final, as it is static");
            }
        }
    }
}
