import java.util.ArrayList;
import java.util.List;
import java.util.Random;

/** Runs of calls by lot, with a fixed seed, on the class and on the oracle: every answer must be the same. */
public final class OracleTest {
    private static final int RUNS = 500;
    private static final int[] ODD = {-1, -2, -9, 8, 9, 10, 16, 20, 21, 60, 61, 99, 100, 255, 256,
        Integer.MIN_VALUE, Integer.MAX_VALUE};

    private final Check check;
    private final Random random;
    private final CousinsByAgreement cousins = new CousinsByAgreement();
    private final Oracle oracle = new Oracle();
    private final List<String> calls = new ArrayList<>();
    private int left = 512;

    private OracleTest(Check check, long seed) {
        this.check = check;
        this.random = new Random(seed);
    }

    public static void main(String[] args) {
        Check check = new Check("OracleTest");
        for (int run = 0; run < RUNS && !check.isTired(); run++) {
            new OracleTest(check, run).play(run);
        }
        check.end();
    }

    private void play(int run) {
        int people = run % 10 == 0 ? random.nextInt(3) : 1 + random.nextInt(8);
        StringBuilder text = new StringBuilder();
        for (int i = 0; i < people; i++) {
            text.append(newcomer());
        }
        tell(text.toString());
        tie(random.nextInt(4) == 0 ? 0.8 : 0.35, random.nextInt(3) == 0 ? 0.6 : 0.15);
        while (left > 0 && !check.isTired()) {
            act();
        }
    }

    private String newcomer() {
        int money = random.nextInt(3) == 0 ? 90 + random.nextInt(10) : random.nextInt(random.nextBoolean() ? 10 : 60);
        return "p" + "pltwda".charAt(random.nextInt(6)) + random.nextInt(10) + two(money) + ";";
    }

    private static String two(int v) {
        return "" + v / 10 + v % 10;
    }

    private void tie(double signings, double feuds) {
        int people = oracle.count(0);
        for (int one = 0; one < people; one++) {
            for (int other = one + 1; other < people; other++) {
                if (random.nextDouble() < signings) {
                    call(4, one, other);
                    call(4, other, one);
                } else if (random.nextInt(4) == 0) {
                    call(4, other, one);
                }
                if (random.nextDouble() < feuds) {
                    call(5, one, other);
                }
            }
        }
    }

    private void tell(String text) {
        for (char c : text.toCharArray()) {
            call(0, c);
        }
        call(1);
    }

    private String statement() {
        String two = "" + random.nextInt(9) + random.nextInt(9);
        switch (random.nextInt(8)) {
            case 0:
                return newcomer();
            case 1:
                return "s" + two + ";";
            case 2:
                return "b" + two + ";";
            case 3:
                return "f" + two + ";";
            case 4:
                return "m" + random.nextInt(9) + two(random.nextInt(100)) + ";";
            case 5:
                return "y" + two(random.nextInt(20) == 0 ? random.nextInt(70) : 1 + random.nextInt(4)) + ";";
            case 6:
                return "s" + random.nextInt(3) + random.nextInt(3) + ";";
            default:
                return "b" + random.nextInt(3) + random.nextInt(3) + ";";
        }
    }

    private String text() {
        StringBuilder text = new StringBuilder();
        int many = random.nextInt(4);
        for (int i = 0; i < many; i++) {
            text.append(statement());
        }
        if (random.nextInt(4) == 0 && text.length() > 0) {
            int place = random.nextInt(text.length());
            if (random.nextBoolean()) {
                text.setLength(place);
            } else {
                text.setCharAt(place, "pltwdasbfmy0123456789;x ".charAt(random.nextInt(24)));
            }
        }
        return text.toString();
    }

    private void act() {
        int which = random.nextInt(42);
        if (which <= 1) {
            tell(text());
            return;
        }
        int[] args = new int[6];
        for (int i = 0; i < args.length; i++) {
            args[i] = argument();
        }
        shape(which, args);
        if (random.nextInt(12) == 0) {
            args[random.nextInt(6)] = ODD[random.nextInt(ODD.length)];
        }
        call(which, args);
        if (random.nextInt(10) == 0) {
            look();
        }
    }

    private int argument() {
        return random.nextInt(Math.max(2, oracle.count(0)));
    }

    /** Makes the numbers behind the people such as the call mostly wants. */
    private void shape(int which, int[] args) {
        int small = random.nextInt(21);
        int wide = random.nextInt(4) == 0 ? random.nextInt(61) : random.nextInt(12);
        switch (which) {
            case 2, 15 -> args[1] = random.nextInt(which == 2 ? 5 : 2);
            case 3 -> args[2] = random.nextInt(4);
            case 6 -> args[1] = random.nextInt(100);
            case 7 -> {
                args[1] = random.nextInt(6);
                args[2] = random.nextInt(10);
            }
            case 8 -> args[0] = random.nextInt(10) == 0 ? 60 : random.nextInt(4);
            case 9 -> {
                args[1] = wide;
                args[2] = random.nextInt(2);
            }
            case 10, 22 -> args[2] = wide;
            case 11, 14 -> args[0] = wide;
            case 13, 18 -> args[0] = random.nextInt(3);
            case 17, 19, 28, 30 -> args[0] = random.nextInt(2);
            case 20, 21, 27 -> args[1] = small;
            case 25 -> args[0] = random.nextInt(3) == 0 ? -1 : args[0];
            case 26 -> {
                args[0] = random.nextInt(3) == 0 ? 99 : random.nextInt(40);
                args[1] = random.nextInt(3) == 0 ? -1 : args[1];
            }
            case 29 -> {
                args[2] = random.nextInt(8);
                args[3] = 2 + random.nextInt(19);
                args[4] = random.nextBoolean() ? oracle.count(2) / Math.max(1, oracle.count(0)) % 100 : random.nextInt(100);
                args[5] = random.nextInt(2);
            }
            case 31 -> args[2] = small;
            case 32 -> args[1] = random.nextInt(2);
            case 33 -> args[0] = told();
            case 36 -> {
                args[0] = 1 + random.nextInt(20);
                args[1] = random.nextInt();
                args[2] = random.nextInt(2);
            }
            case 39, 40, 41 -> args[0] = random.nextInt(18);
            default -> { }
        }
    }

    /** Mostly money that somebody has or will have, so that rows are told truly now and then. */
    private int told() {
        if (oracle.count(0) == 0 || random.nextInt(4) == 0) {
            return random.nextInt(100);
        }
        int next = oracle.count(6);
        if (random.nextBoolean()) {
            return next < oracle.count(0) ? oracle.person(next, 2) : random.nextInt(100);
        }
        return oracle.hasThen(0, Math.min(60, next), 0);
    }

    /** All of the state that can be seen, without counting on the run's calls. */
    private void look() {
        for (int what = 0; what <= 17; what++) {
            check.due(where("count", what), cousins.count(what), oracle.count(what));
        }
        for (int one = 0; one < oracle.count(0); one++) {
            for (int what = 0; what < 5; what++) {
                check.due(where("person", one, what), cousins.person(one, what), oracle.person(one, what));
            }
            for (int other = 0; other < oracle.count(0); other++) {
                for (int what = 0; one != other && what < 4; what++) {
                    check.due(where("tie", one, other, what), cousins.tie(one, other, what), oracle.tie(one, other, what));
                }
            }
        }
    }

    private String where(String name, int... args) {
        return name + java.util.Arrays.toString(args) + " behind " + calls.subList(Math.max(0, calls.size() - 8), calls.size());
    }

    private void call(int which, int... args) {
        if (left == 0) {
            return;
        }
        left--;
        int a = args.length > 0 ? args[0] : 0;
        int b = args.length > 1 ? args[1] : 0;
        int c = args.length > 2 ? args[2] : 0;
        calls.add(which + java.util.Arrays.toString(args));
        long got = which == 29 ? cousins.deaths(a, b, c, args[3], args[4], args[5]) : answer(which, a, b, c);
        long want = which == 29 ? oracle.deaths(a, b, c, args[3], args[4], args[5]) : due(which, a, b, c);
        check.due(where("call " + which, args), got, want);
    }

    private long answer(int which, int a, int b, int c) {
        CousinsByAgreement x = cousins;
        return switch (which) {
            case 0 -> x.letter(a);
            case 1 -> x.county();
            case 2 -> x.person(a, b);
            case 3 -> x.tie(a, b, c);
            case 4 -> x.signs(a, b);
            case 5 -> x.feuds(a, b);
            case 6 -> x.gets(a, b);
            case 7 -> x.turn(a, b, c);
            case 8 -> x.years(a);
            case 9 -> x.hasThen(a, b, c);
            case 10 -> x.areKin(a, b, c);
            case 11 -> x.allMoney(a);
            case 12 -> x.ruined(a);
            case 13 -> x.first(a);
            case 14 -> x.richest(a);
            case 15 -> x.kin(a, b);
            case 16 -> x.removed(a, b);
            case 17 -> x.farthest(a);
            case 18 -> x.groups(a);
            case 19 -> x.clan(a);
            case 20 -> x.bestSign(a, b);
            case 21 -> x.bestCut(a, b);
            case 22 -> x.feudCosts(a, b, c);
            case 23 -> x.peace();
            case 24 -> x.will(a, b);
            case 25 -> x.rooms(a);
            case 26 -> x.couples(a, b);
            case 27 -> x.buys(a, b);
            case 28 -> x.matters(a);
            case 30 -> x.mean(a);
            case 31 -> x.two(a, b, c);
            case 32 -> x.whatIs(a, b);
            case 33 -> x.row(a);
            case 34 -> x.judge();
            case 35 -> x.clear();
            case 36 -> x.lots(a, b, c);
            case 37 -> x.image();
            case 38 -> x.on();
            default -> x.count(a);
        };
    }

    private long due(int which, int a, int b, int c) {
        Oracle x = oracle;
        return switch (which) {
            case 0 -> x.letter(a);
            case 1 -> x.county();
            case 2 -> x.person(a, b);
            case 3 -> x.tie(a, b, c);
            case 4 -> x.signs(a, b);
            case 5 -> x.feuds(a, b);
            case 6 -> x.gets(a, b);
            case 7 -> x.turn(a, b, c);
            case 8 -> x.years(a);
            case 9 -> x.hasThen(a, b, c);
            case 10 -> x.areKin(a, b, c);
            case 11 -> x.allMoney(a);
            case 12 -> x.ruined(a);
            case 13 -> x.first(a);
            case 14 -> x.richest(a);
            case 15 -> x.kin(a, b);
            case 16 -> x.removed(a, b);
            case 17 -> x.farthest(a);
            case 18 -> x.groups(a);
            case 19 -> x.clan(a);
            case 20 -> x.bestSign(a, b);
            case 21 -> x.bestCut(a, b);
            case 22 -> x.feudCosts(a, b, c);
            case 23 -> x.peace();
            case 24 -> x.will(a, b);
            case 25 -> x.rooms(a);
            case 26 -> x.couples(a, b);
            case 27 -> x.buys(a, b);
            case 28 -> x.matters(a);
            case 30 -> x.mean(a);
            case 31 -> x.two(a, b, c);
            case 32 -> x.whatIs(a, b);
            case 33 -> x.row(a);
            case 34 -> x.judge();
            case 35 -> x.clear();
            case 36 -> x.lots(a, b, c);
            case 37 -> x.image();
            case 38 -> x.on();
            default -> x.count(a);
        };
    }
}
