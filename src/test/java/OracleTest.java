import java.lang.reflect.Method;
import java.util.ArrayList;
import java.util.Arrays;
import java.util.List;
import java.util.Random;

/** Runs of calls by lot, with a fixed seed, on the class and on the oracle: every answer must be the same. */
public final class OracleTest {
    private static final int RUNS = 500;
    private static final int LETTER = Face.place("letter");
    private static final int COUNTY = Face.place("county");
    private static final int SIGNS = Face.place("signs");
    private static final int FEUDS = Face.place("feuds");
    private static final int[] ODD = {-1, -2, -9, 8, 9, 10, 16, 20, 21, 60, 61, 99, 100, 255, 256,
        Integer.MIN_VALUE, Integer.MAX_VALUE};

    private final Check check;
    private final Random random;
    private final CousinsByAgreement cousins = new CousinsByAgreement();
    private final Oracle oracle = new Oracle();
    private final List<String> calls = new ArrayList<>();
    private int left = 512;

    private OracleTest(Check check, long seed) {
        this.check = check;
        this.random = new Random(seed);
    }

    public static void main(String[] args) {
        Check check = new Check("OracleTest");
        for (int run = 0; run < RUNS && !check.isTired(); run++) {
            new OracleTest(check, run).play(run);
        }
        check.end();
    }

    private void play(int run) {
        int people = run % 10 == 0 ? random.nextInt(3) : 1 + random.nextInt(8);
        StringBuilder text = new StringBuilder();
        for (int i = 0; i < people; i++) {
            text.append(newcomer());
        }
        tell(text.toString());
        tie(random.nextInt(4) == 0 ? 0.8 : 0.35, random.nextInt(3) == 0 ? 0.6 : 0.15);
        while (left > 0 && !check.isTired()) {
            act();
        }
    }

    private String newcomer() {
        int money = random.nextInt(3) == 0 ? 90 + random.nextInt(10) : random.nextInt(random.nextBoolean() ? 10 : 60);
        return "p" + "pltwda".charAt(random.nextInt(6)) + random.nextInt(10) + two(money) + ";";
    }

    private static String two(int v) {
        return "" + v / 10 + v % 10;
    }

    private void tie(double signings, double feuds) {
        int people = oracle.count(0);
        for (int one = 0; one < people; one++) {
            for (int other = one + 1; other < people; other++) {
                if (random.nextDouble() < signings) {
                    call(SIGNS, one, other);
                    call(SIGNS, other, one);
                } else if (random.nextInt(4) == 0) {
                    call(SIGNS, other, one);
                }
                if (random.nextDouble() < feuds) {
                    call(FEUDS, one, other);
                }
            }
        }
    }

    private void tell(String text) {
        for (char c : text.toCharArray()) {
            call(LETTER, c);
        }
        call(COUNTY);
    }

    private String statement() {
        String two = "" + random.nextInt(9) + random.nextInt(9);
        switch (random.nextInt(8)) {
            case 0:
                return newcomer();
            case 1:
                return "s" + two + ";";
            case 2:
                return "b" + two + ";";
            case 3:
                return "f" + two + ";";
            case 4:
                return "m" + random.nextInt(9) + two(random.nextInt(100)) + ";";
            case 5:
                return "y" + two(random.nextInt(20) == 0 ? random.nextInt(70) : 1 + random.nextInt(4)) + ";";
            case 6:
                return "s" + random.nextInt(3) + random.nextInt(3) + ";";
            default:
                return "b" + random.nextInt(3) + random.nextInt(3) + ";";
        }
    }

    private String text() {
        StringBuilder text = new StringBuilder();
        int many = random.nextInt(4);
        for (int i = 0; i < many; i++) {
            text.append(statement());
        }
        if (random.nextInt(4) == 0 && text.length() > 0) {
            int place = random.nextInt(text.length());
            if (random.nextBoolean()) {
                text.setLength(place);
            } else {
                text.setCharAt(place, "pltwdasbfmy0123456789;x ".charAt(random.nextInt(24)));
            }
        }
        return text.toString();
    }

    private void act() {
        int which = random.nextInt(Face.NAMES.length);
        if (which == LETTER || which == COUNTY) {
            tell(text());
            return;
        }
        int[] args = new int[6];
        for (int i = 0; i < args.length; i++) {
            args[i] = argument();
        }
        shape(Face.NAMES[which], args);
        if (random.nextInt(12) == 0) {
            args[random.nextInt(6)] = ODD[random.nextInt(ODD.length)];
        }
        call(which, args);
        if (random.nextInt(10) == 0) {
            look();
        }
    }

    private int argument() {
        return random.nextInt(Math.max(2, oracle.count(0)));
    }

    /** Makes the numbers behind the people such as the call mostly wants. */
    private void shape(String name, int[] args) {
        int small = random.nextInt(21);
        int wide = random.nextInt(4) == 0 ? random.nextInt(61) : random.nextInt(12);
        switch (name) {
            case "person", "kin" -> args[1] = random.nextInt(name.equals("person") ? 5 : 2);
            case "tie" -> args[2] = random.nextInt(4);
            case "gets" -> args[1] = random.nextInt(100);
            case "turn" -> {
                args[1] = random.nextInt(6);
                args[2] = random.nextInt(10);
            }
            case "years" -> args[0] = random.nextInt(10) == 0 ? 60 : random.nextInt(4);
            case "hasThen" -> {
                args[1] = wide;
                args[2] = random.nextInt(2);
            }
            case "areKin", "feudCosts" -> args[2] = wide;
            case "allMoney", "richest" -> args[0] = wide;
            case "first", "groups" -> args[0] = random.nextInt(3);
            case "farthest", "clan", "matters", "mean" -> args[0] = random.nextInt(2);
            case "bestSign", "bestCut", "buys" -> args[1] = small;
            case "rooms" -> args[0] = random.nextInt(3) == 0 ? -1 : args[0];
            case "couples" -> {
                args[0] = random.nextInt(3) == 0 ? 99 : random.nextInt(40);
                args[1] = random.nextInt(3) == 0 ? -1 : args[1];
            }
            case "deaths" -> {
                args[2] = random.nextInt(8);
                args[3] = 2 + random.nextInt(19);
                args[4] = random.nextBoolean() ? oracle.count(2) / Math.max(1, oracle.count(0)) % 100 : random.nextInt(100);
                args[5] = random.nextInt(2);
            }
            case "two" -> args[2] = small;
            case "whatIs" -> args[1] = random.nextInt(2);
            case "row" -> args[0] = told();
            case "lots" -> {
                args[0] = 1 + random.nextInt(20);
                args[1] = random.nextInt();
                args[2] = random.nextInt(2);
            }
            case "count" -> args[0] = random.nextInt(18);
            default -> { }
        }
    }

    /** Mostly money that somebody has or will have, so that rows are told truly now and then. */
    private int told() {
        if (oracle.count(0) == 0 || random.nextInt(4) == 0) {
            return random.nextInt(100);
        }
        int next = oracle.count(6);
        if (random.nextBoolean()) {
            return next < oracle.count(0) ? oracle.person(next, 2) : random.nextInt(100);
        }
        return oracle.hasThen(0, Math.min(60, next), 0);
    }

    /** All of the state that can be seen, without counting on the run's calls. */
    private void look() {
        for (int what = 0; what <= 17; what++) {
            check.due(where("count", what), cousins.count(what), oracle.count(what));
        }
        for (int one = 0; one < oracle.count(0); one++) {
            for (int what = 0; what < 5; what++) {
                check.due(where("person", one, what), cousins.person(one, what), oracle.person(one, what));
            }
            for (int other = 0; other < oracle.count(0); other++) {
                for (int what = 0; one != other && what < 4; what++) {
                    check.due(where("tie", one, other, what), cousins.tie(one, other, what), oracle.tie(one, other, what));
                }
            }
        }
    }

    private String where(String name, int... args) {
        return name + Arrays.toString(args) + " behind " + calls.subList(Math.max(0, calls.size() - 8), calls.size());
    }

    private void call(int which, int... args) {
        if (left == 0) {
            return;
        }
        left--;
        String name = Face.NAMES[which];
        Method asked = Face.method(CousinsByAgreement.class, name);
        int[] used = Arrays.copyOf(args, asked.getParameterCount());
        calls.add(name + Arrays.toString(used));
        long got = Face.answer(asked, cousins, used);
        long want = Face.answer(Face.method(Oracle.class, name), oracle, used);
        check.due(where(name, used), got, want);
    }
}
