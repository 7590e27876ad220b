import java.io.IOException;
import java.nio.file.Files;
import java.nio.file.Path;
import java.util.HashMap;
import java.util.HashSet;
import java.util.Map;
import java.util.Set;
import java.util.TreeSet;
import java.util.regex.Matcher;
import java.util.regex.Pattern;

/**
 * LANGUAGE.md 8, 11 and 12, as far as the text of the class shows them: who calls whom, how deep, which methods call
 * themselves, and that no method makes an object.
 */
public final class CallDepthTest {
    private static final Check CHECK = new Check("CallDepthTest");
    private static final int DEEPEST = 8;
    private static final Set<String> CALL_THEMSELVES = Set.of("seatFrom", "waysFrom");
    private static final Pattern HEAD = Pattern.compile(
            "^( {4}| {8})(?:public |private |static )*(?:int|long|boolean|void) (\\w+)\\([^)]*\\) \\{$");

    private final Map<String, String> bodies = new HashMap<>();
    private final Map<String, Set<String>> calls = new HashMap<>();

    private CallDepthTest(String source) {
        String[] lines = source.split("\n");
        for (int start = 0; start < lines.length; start++) {
            Matcher head = HEAD.matcher(lines[start]);
            if (head.matches()) {
                int end = start + 1;
                StringBuilder body = new StringBuilder();
                while (!lines[end].equals(head.group(1) + "}")) {
                    body.append(lines[end++].replaceAll("//.*", "")).append('\n');
                }
                // A name for one method only, so that a call's name tells which it is.
                CHECK.holds("one method is named " + head.group(2), bodies.put(head.group(2), body.toString()) == null);
            }
        }
        for (Map.Entry<String, String> one : bodies.entrySet()) {
            Set<String> called = new TreeSet<>();
            Matcher call = Pattern.compile("\\b(\\w+)\\(").matcher(one.getValue());
            while (call.find()) {
                if (bodies.containsKey(call.group(1))) {
                    called.add(call.group(1));
                }
            }
            calls.put(one.getKey(), called);
        }
    }

    public static void main(String[] args) throws IOException {
        String path = args.length > 0 ? args[0] : "src/main/java/CousinsByAgreement.java";
        CallDepthTest test = new CallDepthTest(Files.readString(Path.of(path)));
        for (String name : Face.NAMES) {
            CHECK.holds("found: " + name, test.bodies.containsKey(name));
            CHECK.holds("at most eight deep: " + name, test.depth(name, new HashSet<>()) <= DEEPEST);
        }
        for (String name : test.bodies.keySet()) {
            CHECK.holds("makes nothing: " + name, !test.bodies.get(name).matches("(?s).*\\bnew\\b.*"));
            CHECK.holds("calls itself or not: " + name,
                    test.calls.get(name).contains(name) == CALL_THEMSELVES.contains(name));
        }
        CHECK.end();
    }

    /** How many calls stand open at most; a method that calls itself is counted once. */
    private int depth(String name, Set<String> open) {
        open.add(name);
        int most = 0;
        for (String called : calls.get(name)) {
            if (!called.equals(name)) {
                CHECK.holds("no round of calls by " + called, !open.contains(called));
                most = Math.max(most, open.contains(called) ? 0 : depth(called, open));
            }
        }
        open.remove(name);
        return most + 1;
    }
}
