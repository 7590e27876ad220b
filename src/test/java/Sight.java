import java.lang.reflect.Method;
import java.util.HashMap;
import java.util.Map;

/** All that can be seen of an object (the class or the oracle), as one row of numbers. */
final class Sight {
    private static final Map<Class<?>, Map<String, Method>> METHODS = new HashMap<>();
    /** Where a look tells the refusals -1 .. -6. */
    private static final int REFUSALS = 8;

    private Sight() {
    }

    static long ask(Object of, String name, int... args) {
        Method method = METHODS.computeIfAbsent(of.getClass(), any -> new HashMap<>())
                .computeIfAbsent(name, any -> Face.method(of.getClass(), name));
        return Face.answer(method, of, args);
    }

    static int refusalPlace(int refusal) {
        return REFUSALS - 1 - refusal;
    }

    /** What calls tell that change nothing: at most 278 of them. */
    static long[] look(Object of) {
        int people = (int) ask(of, "count", 0);
        long[] seen = new long[14 + 5 * people + 4 * people * people];
        int next = 0;
        for (int what = 0; what < REFUSALS; what++) {
            seen[next++] = ask(of, "count", what);
        }
        for (int what = 11; what <= 16; what++) {
            seen[next++] = ask(of, "count", what);
        }
        for (int one = 0; one < people; one++) {
            for (int what = 0; what < 5; what++) {
                seen[next++] = ask(of, "person", one, what);
            }
            for (int other = 0; other < people; other++) {
                for (int what = 0; one != other && what < 4; what++) {
                    seen[next++] = ask(of, "tie", one, other, what);
                }
            }
        }
        return seen;
    }

    /** What the row, the letters and the image hold; the object is spent by it. */
    static long[] lookInside(Object of) {
        long[] seen = new long[17];
        int next = 0;
        seen[next++] = ask(of, "judge");
        seen[next++] = ask(of, "county");
        for (int what = 0; what < 6; what++) {
            seen[next++] = ask(of, "count", what);
        }
        seen[next++] = ask(of, "on");
        for (int what = 0; what < 6; what++) {
            seen[next++] = ask(of, "count", what);
        }
        for (int part = 0; part < 2; part++) {
            seen[next++] = ask(of, "mean", part);
        }
        return seen;
    }
}
