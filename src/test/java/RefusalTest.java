import java.util.ArrayList;
import java.util.Arrays;
import java.util.HashMap;
import java.util.HashSet;
import java.util.List;
import java.util.Map;
import java.util.TreeSet;

/**
 * Every refusal of every call at both sides of each bound, alone and with others, on nobody, on one, on some, on a
 * county with room for one more of each and on a full one: the first that fits is answered, and nothing changes but
 * how many there were. What is not refused must answer and change as the oracle.
 */
public final class RefusalTest {
    private static final Check CHECK = new Check("RefusalTest");
    private static final int LEAST = Integer.MIN_VALUE;
    private static final int GREATEST = Integer.MAX_VALUE;
    /** In calls of many numbers no more than so many are away from the plainest ones at once. */
    private static final int AT_ONCE = 3;

    private interface Fits {
        boolean in(Scene scene, int[] args);
    }

    private interface Tries {
        int[] in(Scene scene);
    }

    /** A refusal, when it is due, and which numbers are tried for it at which places. */
    private record Rule(int refusal, Fits fits, Tries tries, int... places) {
    }

    private record Call(String name, int... args) {
    }

    /** An object as it is made anew for each call. */
    private record Scene(String name, int people, int year, List<Call> script) {
        Object make(boolean oracle) {
            Object made = oracle ? new Oracle() : new CousinsByAgreement();
            for (Call call : script) {
                Sight.ask(made, call.name(), call.args());
            }
            return made;
        }

        boolean has(int one) {
            return one >= 0 && one < people;
        }

        boolean isIn(String name) {
            return script.stream().anyMatch(call -> call.name().equals(name));
        }
    }

    private static final Map<String, List<Rule>> TOLD = new HashMap<>();

    private RefusalTest() {
    }

    private static Tries people() {
        return scene -> new int[] {-2, -1, 0, 1, scene.people() - 1, scene.people()};
    }

    private static Rule nobody(int place) {
        return new Rule(-1, (scene, args) -> !scene.has(args[place]), people(), place);
    }

    private static Rule nobodyButAll(int place) {
        return new Rule(-1, (scene, args) -> args[place] != -1 && !scene.has(args[place]), people(), place);
    }

    private static Rule noTwo() {
        return new Rule(-1, (scene, args) -> !scene.has(args[0]) || !scene.has(args[1]) || args[0] == args[1],
                people(), 0, 1);
    }

    private static Rule other(int place, int last) {
        return new Rule(-2, (scene, args) -> args[place] < 0 || args[place] > last,
                scene -> new int[] {-1, 0, 1, last, last + 1}, place);
    }

    private static Rule below(int place, int least) {
        return new Rule(-4, (scene, args) -> args[place] < least, scene -> new int[] {least - 1, least}, place);
    }

    private static Rule above(int place, int most) {
        return new Rule(-6, (scene, args) -> args[place] > most, scene -> new int[] {most, most + 1}, place);
    }

    private static Rule yearAbove(int most) {
        return new Rule(-6, (scene, args) -> (long) scene.year() + args[0] > most,
                scene -> new int[] {most - scene.year(), most - scene.year() + 1}, 0);
    }

    private static Rule when(int refusal, Fits fits) {
        return new Rule(refusal, fits, scene -> new int[0]);
    }

    private static Rule free(int place, int... tried) {
        return new Rule(0, (scene, args) -> false, scene -> tried, place);
    }

    private static void tell(String name, Rule... rules) {
        TOLD.put(name, List.of(rules));
    }

    /** The refusals of promises 2 to 10 and 35 to 41, each in its promise's order. */
    private static void tellOfState() {
        tell("letter", below(0, 0), above(0, 255), when(-6, (scene, args) -> scene.name().equals("full")));
        tell("county");
        tell("person", nobody(0), other(1, 4));
        tell("tie", noTwo(), other(2, 3));
        tell("signs", noTwo());
        tell("feuds", noTwo());
        tell("gets", nobody(0), below(1, 0), above(1, 99));
        tell("turn", nobody(0), other(1, 5), below(2, 0), above(2, 9));
        tell("years", below(0, 1), above(0, 60), yearAbove(999));
        tell("row", below(0, 0), above(0, 99), when(-6, (scene, args) -> scene.name().equals("full")));
        tell("judge");
        tell("clear");
        tell("lots", below(0, 1), above(0, 20), other(2, 1), free(1, -1, 0, 1));
        tell("image");
        tell("on", when(-3, (scene, args) -> !scene.isIn("image")));
        tell("count", free(0, -1, 0, 1, 2, 3, 4, 5, 6, 7, 8, 9, 10, 11, 12, 13, 14, 15, 16, 17));
    }

    /** The refusals of promises 11 to 34. */
    private static void tellOfThought() {
        tell("hasThen", nobody(0), below(1, 0), above(1, 60), other(2, 1));
        tell("areKin", noTwo(), below(2, 0), above(2, 60));
        tell("allMoney", below(0, 0), above(0, 60));
        tell("ruined", nobody(0));
        tell("first", other(0, 2));
        tell("richest", below(0, 0), above(0, 60));
        tell("kin", nobody(0), other(1, 1));
        tell("removed", noTwo());
        tell("farthest", other(0, 1));
        tell("groups", other(0, 2));
        tell("clan", other(0, 1));
        tell("bestSign", nobody(0), below(1, 0), above(1, 20));
        tell("bestCut", nobody(0), below(1, 0), above(1, 20));
        tell("feudCosts", noTwo(), below(2, 0), above(2, 60));
        tell("peace");
        tell("will", noTwo());
        tell("rooms", nobodyButAll(0));
        tell("couples", below(0, 0), above(0, 99), nobodyButAll(1));
        tell("buys", nobody(0), below(1, 0), above(1, 20));
        tell("matters", other(0, 1));
        tell("deaths", noTwo(), below(2, 0), below(4, 0), below(3, 2), above(2, 7), above(3, 20), above(4, 99),
                other(5, 1));
        tell("mean", other(0, 1));
        tell("two", noTwo(), below(2, 0), above(2, 20));
        tell("whatIs", nobody(0), other(1, 1));
    }

    private static List<Call> letters(String text) {
        List<Call> calls = new ArrayList<>();
        for (char c : text.toCharArray()) {
            calls.add(new Call("letter", c));
        }
        return calls;
    }

    private static List<Call> county(String text) {
        List<Call> calls = letters(text);
        calls.add(new Call("county"));
        return calls;
    }

    private static Scene some() {
        List<Call> calls = county("pl715;pa008;pp003;b01;s12;f02;y03;");
        calls.add(new Call("image"));
        calls.addAll(county("m077;s21;y04;"));
        calls.add(new Call("person", 3, 0));
        calls.add(new Call("row", 7));
        calls.add(new Call("row", 8));
        calls.addAll(letters("m0"));
        return new Scene("some", 3, 7, calls);
    }

    /** As full as can be, less so many of the people, letters, numbers and years. */
    private static Scene filled(String name, int less) {
        List<Call> calls = county("pp999;pl999;pt999;pw999;pd999;pa999;pl399;pw099;".substring(0, 48 - 6 * less));
        for (int i = 0; i < 16; i++) {
            calls.add(new Call("years", 60));
        }
        calls.add(new Call("years", 39 - less));
        int people = 8 - less;
        for (int one = 0; one < people; one++) {
            calls.add(new Call("signs", one, (one + 1) % people));
            calls.add(new Call("signs", (one + 1) % people, one));
        }
        calls.add(new Call("feuds", 0, 2));
        calls.add(new Call("feuds", 3, 4));
        calls.add(new Call("image"));
        calls.add(new Call("feuds", 5, 6));
        calls.add(new Call("gets", 1, 0));
        for (int i = 0; i < 16 - less; i++) {
            calls.add(new Call("row", i == 1 ? 0 : 99));
        }
        calls.addAll(letters("m011;s02;m177;".repeat(6).concat("b01;f23;s45;").substring(0, 96 - less)));
        return new Scene(name, people, 999 - less, calls);
    }

    public static void main(String[] args) {
        tellOfState();
        tellOfThought();
        CHECK.holds("every call of the face is told", TOLD.keySet().equals(new HashSet<>(List.of(Face.NAMES))));
        List<Scene> scenes = List.of(new Scene("nobody", 0, 0, List.of()),
                new Scene("one", 1, 0, county("pd950;")), some(), filled("nearly full", 1), filled("full", 0));
        for (Scene scene : scenes) {
            tryAll(scene);
        }
        countsUp();
        CHECK.end();
    }

    private static void tryAll(Scene scene) {
        long[] seen = Sight.look(scene.make(false));
        Object spent = scene.make(false);
        long[] inside = Sight.lookInside(spent);
        for (String name : Face.NAMES) {
            int[][] tried = tried(scene, name);
            tryFrom(scene, name, tried, new int[tried.length], 0, 0, seen, inside);
        }
    }

    /** For each place the plainest number first, then all others: those by the bounds and the ends of int. */
    private static int[][] tried(Scene scene, String name) {
        int[][] tried = new int[Face.method(CousinsByAgreement.class, name).getParameterCount()][];
        for (int place = 0; place < tried.length; place++) {
            TreeSet<Integer> all = new TreeSet<>(List.of(LEAST, GREATEST));
            for (Rule rule : TOLD.get(name)) {
                for (int at : rule.places()) {
                    if (at == place) {
                        Arrays.stream(rule.tries().in(scene)).forEach(all::add);
                    }
                }
            }
            int plain = plainest(name, place);
            CHECK.holds("a plain number for " + name + " " + place, all.remove(plain));
            int[] row = new int[all.size() + 1];
            row[0] = plain;
            int next = 1;
            for (int one : all) {
                row[next++] = one;
            }
            tried[place] = row;
        }
        return tried;
    }

    private static int plainest(String name, int place) {
        boolean second = place == 1 && TOLD.get(name).get(0).places().length == 2;
        boolean least = place == 0 && (name.equals("years") || name.equals("lots"));
        if (name.equals("deaths") && place == 3) {
            return 2;
        }
        return second || least ? 1 : 0;
    }

    private static void tryFrom(Scene scene, String name, int[][] tried, int[] args, int place, int away, long[] seen,
            long[] inside) {
        if (place == args.length) {
            tryOne(scene, name, args, seen, inside);
            return;
        }
        for (int i = 0; i < tried[place].length && (i == 0 || away < AT_ONCE); i++) {
            args[place] = tried[place][i];
            tryFrom(scene, name, tried, args, place + 1, away + Math.min(1, i), seen, inside);
        }
    }

    private static int refusalDue(Scene scene, String name, int[] args) {
        for (Rule rule : TOLD.get(name)) {
            if (rule.fits().in(scene, args)) {
                return rule.refusal();
            }
        }
        return 0;
    }

    private static long told(String name, int refusal) {
        switch (name) {
            case "feudCosts":
                return 1000000000L - refusal;
            case "deaths", "mean":
                return 4000000000000000000L - refusal;
            default:
                return refusal;
        }
    }

    private static void tryOne(Scene scene, String name, int[] args, long[] seen, long[] inside) {
        String call = scene.name() + ": " + name + Arrays.toString(args);
        Object cousins = scene.make(false);
        long got = Sight.ask(cousins, name, args);
        int refusal = refusalDue(scene, name, args);
        if (refusal == 0) {
            Object oracle = scene.make(true);
            CHECK.due(call, got, Sight.ask(oracle, name, args));
            CHECK.holds(call + " changes what it must", Arrays.equals(Sight.look(cousins), Sight.look(oracle)));
            CHECK.holds(call + " leaves inside what it must",
                    Arrays.equals(Sight.lookInside(cousins), Sight.lookInside(oracle)));
            return;
        }
        CHECK.due(call, got, told(name, refusal));
        long[] due = seen.clone();
        due[Sight.refusalPlace(refusal)]++;
        CHECK.holds(call + " changes nothing but the count", Arrays.equals(Sight.look(cousins), due));
        CHECK.holds(call + " changes nothing inside", Arrays.equals(Sight.lookInside(cousins), inside));
    }

    /** Each kind of refusal by itself, and as many as an object's calls can have. */
    private static void countsUp() {
        CousinsByAgreement x = new CousinsByAgreement();
        for (int i = 0; i < 505; i++) {
            x.letter(256);
        }
        for (int what = 11; what <= 16; what++) {
            CHECK.due("count of so many " + what, x.count(what), what == 16 ? 505 : 0);
        }
        CHECK.due("the last call", x.letter(0), 1);
    }
}
