import java.lang.reflect.InvocationTargetException;
import java.lang.reflect.Method;
import java.util.Arrays;
import java.util.List;

/** The document's public face, and calls by name. */
final class Face {
    static final List<String> SIGNATURES = List.of("int letter(int)", "int county()", "int person(int,int)",
            "int tie(int,int,int)", "int signs(int,int)", "int feuds(int,int)", "int gets(int,int)",
            "int turn(int,int,int)", "int years(int)", "int hasThen(int,int,int)", "int areKin(int,int,int)",
            "int allMoney(int)", "int ruined(int)", "int first(int)", "int richest(int)", "int kin(int,int)",
            "int removed(int,int)", "int farthest(int)", "int groups(int)", "int clan(int)", "int bestSign(int,int)",
            "int bestCut(int,int)", "int feudCosts(int,int,int)", "int peace()", "int will(int,int)", "int rooms(int)",
            "int couples(int,int)", "int buys(int,int)", "int matters(int)", "long deaths(int,int,int,int,int,int)",
            "long mean(int)", "int two(int,int,int)", "int whatIs(int,int)", "int row(int)", "int judge()",
            "int clear()", "int lots(int,int,int)", "int image()", "int on()", "int count(int)");
    static final String[] NAMES = SIGNATURES.stream()
            .map(signature -> signature.substring(signature.indexOf(' ') + 1, signature.indexOf('(')))
            .toArray(String[]::new);

    private Face() {
    }

    static int place(String name) {
        return Arrays.asList(NAMES).indexOf(name);
    }

    static Method method(Class<?> of, String name) {
        for (Method method : of.getDeclaredMethods()) {
            if (method.getName().equals(name)) {
                return method;
            }
        }
        throw new IllegalArgumentException("no " + name);
    }

    static long answer(Method method, Object of, int... args) {
        Object[] boxed = new Object[args.length];
        for (int i = 0; i < args.length; i++) {
            boxed[i] = args[i];
        }
        try {
            return ((Number) method.invoke(of, boxed)).longValue();
        } catch (InvocationTargetException | IllegalAccessException e) {
            throw new IllegalStateException(method + Arrays.toString(args), e);
        }
    }
}
