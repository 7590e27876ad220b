import java.io.IOException;
import java.lang.reflect.Field;
import java.lang.reflect.Method;
import java.lang.reflect.Modifier;
import java.nio.file.Files;
import java.nio.file.Path;
import java.util.ArrayList;
import java.util.Arrays;
import java.util.List;
import java.util.Set;
import java.util.TreeSet;
import java.util.regex.Matcher;
import java.util.regex.Pattern;
import java.util.stream.Collectors;

/** The document's face, and those rules of LANGUAGE.md that can be seen from the text or the compiled class. */
public final class FaceTest {
    private static final Check CHECK = new Check("FaceTest");
    private static final Set<String> LIBRARY = Set.of("Integer.bitCount", "Math.min", "Math.max", "Math.abs",
            "System.arraycopy", "Arrays.fill");

    private FaceTest() {
    }

    public static void main(String[] args) throws IOException {
        face();
        insideClasses();
        String source = Files.readString(Path.of(args.length > 0 ? args[0] : "src/main/java/CousinsByAgreement.java"));
        words(withoutTexts(source));
        lengths(source);
        CHECK.end();
    }

    private static void face() {
        Class<?> of = CousinsByAgreement.class;
        CHECK.due("public and final", of.getModifiers(), Modifier.PUBLIC | Modifier.FINAL);
        CHECK.due("constructors", of.getDeclaredConstructors().length, 1);
        CHECK.due("public constructor", of.getConstructors().length, 1);
        Set<String> open = new TreeSet<>();
        for (Method method : of.getDeclaredMethods()) {
            boolean isPrivate = Modifier.isPrivate(method.getModifiers());
            if (!isPrivate) {
                open.add(signature(method));
                CHECK.due("just public: " + method, method.getModifiers(), Modifier.PUBLIC);
            }
            CHECK.holds("private under another name: " + method,
                    !isPrivate || Face.place(method.getName()) < 0);
        }
        CHECK.holds("face is " + open, open.equals(new TreeSet<>(Face.SIGNATURES)));
        for (Field field : of.getDeclaredFields()) {
            CHECK.holds("private: " + field, Modifier.isPrivate(field.getModifiers()));
        }
    }

    private static String signature(Method method) {
        String types = Arrays.stream(method.getParameterTypes()).map(Class::getName).collect(Collectors.joining(","));
        return method.getReturnType().getName() + " " + method.getName() + "(" + types + ")";
    }

    private static void insideClasses() {
        List<Class<?>> all = new ArrayList<>(List.of(CousinsByAgreement.class.getDeclaredClasses()));
        CHECK.holds("some twelve classes", all.size() <= 11);
        for (Class<?> inside : all) {
            int modifiers = inside.getModifiers();
            CHECK.holds("static: " + inside, Modifier.isStatic(modifiers));
            CHECK.holds("not open: " + inside, !Modifier.isPublic(modifiers) && !Modifier.isProtected(modifiers));
            for (Method method : inside.getDeclaredMethods()) {
                CHECK.holds("under another name: " + method, Face.place(method.getName()) < 0);
            }
        }
        all.add(CousinsByAgreement.class);
        for (Class<?> one : all) {
            long fields = Arrays.stream(one.getDeclaredFields())
                    .filter(field -> !Modifier.isStatic(field.getModifiers())).count();
            CHECK.holds("some twenty fields: " + one, fields <= 20);
            for (Field field : one.getDeclaredFields()) {
                CHECK.holds("no static state: " + field,
                        !Modifier.isStatic(field.getModifiers()) || Modifier.isFinal(field.getModifiers()));
            }
            for (Method method : one.getDeclaredMethods()) {
                CHECK.holds("at most seven parameters: " + method, method.getParameterCount() <= 7);
            }
            types(one, all);
        }
    }

    /** What this class is written with; LANGUAGE.md 3 and 5 leave more. */
    private static void types(Class<?> one, List<Class<?>> own) {
        for (Field field : one.getDeclaredFields()) {
            Class<?> type = field.getType();
            boolean isConstant = Set.of(int.class, long.class, String.class).contains(type);
            boolean isHeld = Set.of(int.class, boolean.class, int[].class).contains(type) || own.contains(type)
                    || type.isArray() && own.contains(type.getComponentType());
            CHECK.holds("of a type that may be: " + field,
                    Modifier.isStatic(field.getModifiers()) ? isConstant : isHeld);
        }
    }

    private static String withoutTexts(String source) {
        return source.replaceAll("(?s)/\\*.*?\\*/", " ").replaceAll("//[^\n]*", " ")
                .replaceAll("\"[^\"\n]*\"", "\"\"").replaceAll("'[^'\n]'", "' '");
    }

    private static void words(String code) {
        Matcher word = Pattern.compile("\\b(throw|throws|try|catch|synchronized|assert|instanceof|double|float|"
                + "Object|Exception|package|protected|equals|hashCode|toString|Random|Thread|Runtime)\\b|->|::")
                .matcher(code);
        while (word.find()) {
            CHECK.holds("no " + word.group(), false);
        }
        Matcher library = Pattern.compile("\\b(Integer|Long|Math|System|Arrays|List|String)\\.(\\w+)").matcher(
                code.replaceAll("import [^;]*;", ""));
        while (library.find()) {
            CHECK.holds("in the library: " + library.group(), LIBRARY.contains(library.group()));
        }
        Matcher imports = Pattern.compile("import ([^;]*);").matcher(code);
        while (imports.find()) {
            CHECK.holds("import " + imports.group(1), imports.group(1).equals("java.util.Arrays"));
        }
        for (char c : code.toCharArray()) {
            if (c > 127) {
                CHECK.holds("sign " + (int) c, false);
            }
        }
    }

    /** A method ends with the bracket that stands as far in as its first line. */
    private static void lengths(String source) {
        String[] lines = source.split("\n");
        Pattern head = Pattern.compile("^( {4}| {8})(?!(?:if|for|while|switch|private static final class)\\b)\\S.*\\) \\{$");
        int methods = 0;
        for (int start = 0; start < lines.length; start++) {
            Matcher matcher = head.matcher(lines[start]);
            if (matcher.matches()) {
                int end = start;
                while (end < lines.length && !lines[end].equals(matcher.group(1) + "}")) {
                    end++;
                }
                methods++;
                CHECK.holds("short: " + lines[start].trim(), end - start < 60);
            }
        }
        CHECK.holds("methods were found", methods > 60);
    }
}
