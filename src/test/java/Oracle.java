import java.math.BigInteger;
import java.util.ArrayList;
import java.util.HashMap;
import java.util.List;
import java.util.Map;
import java.util.TreeSet;
import java.util.function.Consumer;
import java.util.function.IntPredicate;
import java.util.regex.Matcher;
import java.util.regex.Pattern;

/** The document told a second time, by other means and by trying all there is, to hold the class against. */
final class Oracle {
    private static final Pattern WHOLE = Pattern.compile(
            "(?:p[pltwda][0-9][0-9][0-9];|[sbf][0-9][0-9];|m[0-9][0-9][0-9];|y[0-9][0-9];)+");
    private static final Pattern STATEMENT = Pattern.compile("[a-z][^;]*;");

    private static class Person {
        int pays(int figure, int has, int otherHas) {
            return 1;
        }
    }

    private static class Lord extends Person {
        @Override
        int pays(int figure, int has, int otherHas) {
            return super.pays(figure, has, otherHas) + figure / 3;
        }
    }

    private static final class Tinker extends Person {
        @Override
        int pays(int figure, int has, int otherHas) {
            return 0;
        }
    }

    private static class Widow extends Person {
        @Override
        int pays(int figure, int has, int otherHas) {
            return otherHas < has ? super.pays(figure, has, otherHas) : 0;
        }
    }

    private static final class Duke extends Lord {
        @Override
        int pays(int figure, int has, int otherHas) {
            return super.pays(figure, has, otherHas) * 2;
        }
    }

    private static final class Aunt extends Widow {
        @Override
        int pays(int figure, int has, int otherHas) {
            return super.pays(figure, has, otherHas) + 1;
        }
    }

    private static final List<Person> KINDS =
            List.of(new Person(), new Lord(), new Tinker(), new Widow(), new Duke(), new Aunt());

    private static final class Body {
        int kind;
        int figure;
        int money;
        TreeSet<Integer> signed = new TreeSet<>();
        TreeSet<Integer> foes = new TreeSet<>();

        Body copy() {
            Body other = new Body();
            other.kind = kind;
            other.figure = figure;
            other.money = money;
            other.signed = new TreeSet<>(signed);
            other.foes = new TreeSet<>(foes);
            return other;
        }
    }

    private static final class Shire {
        final List<Body> all = new ArrayList<>();
        int year;

        Shire copy() {
            Shire other = new Shire();
            for (Body body : all) {
                other.all.add(body.copy());
            }
            other.year = year;
            return other;
        }

        int size() {
            return all.size();
        }

        Body get(int one) {
            return all.get(one);
        }

        boolean there(int one) {
            return one >= 0 && one < size();
        }

        boolean kin(int one, int other) {
            return one != other && get(one).signed.contains(other) && get(other).signed.contains(one)
                    && !get(one).foes.contains(other);
        }

        int pays(int one, int other) {
            return KINDS.get(get(one).kind).pays(get(one).figure, get(one).money, get(other).money);
        }

        Shire year(int dead) {
            year++;
            for (int one = 0; one < size(); one++) {
                for (int other = 0; other < size(); other++) {
                    if (!kin(one, other) || one == dead || other == dead) {
                        continue;
                    }
                    int due = pays(one, other);
                    if (get(one).money >= due) {
                        get(other).money = Math.min(99, get(other).money + due);
                        get(one).money -= due;
                    } else {
                        get(one).signed.remove(other);
                    }
                }
            }
            return this;
        }

        Shire years(int n) {
            for (int i = 0; i < n; i++) {
                year(-1);
            }
            return this;
        }

        int wealth() {
            return all.stream().mapToInt(body -> body.money).sum();
        }

        int kinTwos() {
            int sum = 0;
            for (int one = 0; one < size(); one++) {
                for (int other = one + 1; other < size(); other++) {
                    sum += kin(one, other) ? 1 : 0;
                }
            }
            return sum;
        }

        String moneyAndSignings() {
            StringBuilder text = new StringBuilder();
            for (Body body : all) {
                text.append(body.money).append(body.signed).append('/');
            }
            return text.toString();
        }

        int[][] distances() {
            int[][] far = new int[size()][size()];
            for (int a = 0; a < size(); a++) {
                for (int b = 0; b < size(); b++) {
                    far[a][b] = a == b ? 0 : kin(a, b) ? 1 : 1000;
                }
            }
            for (int via = 0; via < size(); via++) {
                for (int a = 0; a < size(); a++) {
                    for (int b = 0; b < size(); b++) {
                        far[a][b] = Math.min(far[a][b], far[a][via] + far[via][b]);
                    }
                }
            }
            return far;
        }

        static void toggle(TreeSet<Integer> set, int one) {
            if (!set.remove(one)) {
                set.add(one);
            }
        }

        static void set(TreeSet<Integer> set, int one, boolean yes) {
            if (yes) {
                set.add(one);
            } else {
                set.remove(one);
            }
        }

        void swap(int a, int b) {
            Map<Integer, Integer> turned = new HashMap<>();
            for (int one = 0; one < size(); one++) {
                turned.put(one, one == a ? b : one == b ? a : one);
            }
            Shire old = copy();
            for (int one = 0; one < size(); one++) {
                Body body = get(turned.get(one));
                body.signed.clear();
                body.foes.clear();
                old.get(one).signed.forEach(other -> body.signed.add(turned.get(other)));
                old.get(one).foes.forEach(other -> body.foes.add(turned.get(other)));
            }
        }
    }

    private Shire now = new Shire();
    private Shire kept;
    private final StringBuilder text = new StringBuilder();
    private final List<Integer> told = new ArrayList<>();
    private final int[] refusals = new int[7];

    private int refuse(int why) {
        refusals[-why]++;
        return why;
    }

    private boolean badTwo(int one, int other) {
        return !now.there(one) || !now.there(other) || one == other;
    }

    private static int range(int v, int least, int most) {
        return v < least ? -4 : v > most ? -6 : 0;
    }

    int letter(int c) {
        int no = range(c, 0, 255);
        if (no == 0 && text.length() == 96) {
            no = -6;
        }
        if (no != 0) {
            return refuse(no);
        }
        text.append((char) c);
        return text.length();
    }

    int county() {
        String whole = text.toString();
        text.setLength(0);
        for (int end = 1; end <= whole.length(); end++) {
            Matcher matcher = WHOLE.matcher(whole.substring(0, end));
            if (!matcher.matches() && !matcher.hitEnd()) {
                return -1000 - (end - 1);
            }
        }
        if (!WHOLE.matcher(whole).matches()) {
            return -1000 - whole.length();
        }
        Shire trial = now.copy();
        Matcher statements = STATEMENT.matcher(whole);
        int many = 0;
        while (statements.find()) {
            if (!statement(trial, statements.group())) {
                return -2000 - statements.start();
            }
            many++;
        }
        now = trial;
        return many;
    }

    private static boolean statement(Shire shire, String said) {
        int one = Character.digit(said.charAt(1), 10);
        int other = Character.digit(said.charAt(2), 10);
        boolean two = shire.there(one) && shire.there(other) && one != other;
        char letter = said.charAt(0);
        if (letter == 'p') {
            if (shire.size() == 8) {
                return false;
            }
            Body body = new Body();
            body.kind = "pltwda".indexOf(said.charAt(1));
            body.figure = other;
            body.money = Integer.parseInt(said.substring(3, 5));
            shire.all.add(body);
            return true;
        }
        if (letter == 'm') {
            if (!shire.there(one)) {
                return false;
            }
            shire.get(one).money = Integer.parseInt(said.substring(2, 4));
            return true;
        }
        if (letter == 'y') {
            int n = Integer.parseInt(said.substring(1, 3));
            if (n < 1 || n > 60 || shire.year + n > 999) {
                return false;
            }
            shire.years(n);
            return true;
        }
        if (!two) {
            return false;
        }
        if (letter == 's') {
            Shire.toggle(shire.get(one).signed, other);
        } else if (letter == 'b') {
            shire.get(one).signed.add(other);
            shire.get(other).signed.add(one);
        } else {
            Shire.toggle(shire.get(one).foes, other);
            Shire.toggle(shire.get(other).foes, one);
        }
        return true;
    }

    int person(int person, int what) {
        if (!now.there(person)) {
            return refuse(-1);
        }
        Body body = now.get(person);
        int[] answers = {body.kind, body.figure, body.money, Integer.bitCount(kinBits(person)), body.signed.size()};
        return what < 0 || what > 4 ? refuse(-2) : answers[what];
    }

    private int kinBits(int one) {
        return bits(now.size(), other -> now.kin(one, other));
    }

    private static int bits(int many, IntPredicate holds) {
        int bits = 0;
        for (int one = 0; one < many; one++) {
            bits += holds.test(one) ? 1 << one : 0;
        }
        return bits;
    }

    int tie(int one, int other, int what) {
        if (badTwo(one, other)) {
            return refuse(-1);
        }
        if (what < 0 || what > 3) {
            return refuse(-2);
        }
        boolean[] facts = {now.get(one).signed.contains(other), now.get(one).foes.contains(other), now.kin(one, other)};
        return what == 3 ? now.pays(one, other) : facts[what] ? 1 : 0;
    }

    int signs(int one, int other) {
        if (badTwo(one, other)) {
            return refuse(-1);
        }
        Shire.toggle(now.get(one).signed, other);
        return now.get(one).signed.contains(other) ? 1 : 0;
    }

    int feuds(int one, int other) {
        if (badTwo(one, other)) {
            return refuse(-1);
        }
        Shire.toggle(now.get(one).foes, other);
        Shire.toggle(now.get(other).foes, one);
        return now.get(one).foes.contains(other) ? 1 : 0;
    }

    int gets(int person, int v) {
        int no = now.there(person) ? range(v, 0, 99) : -1;
        if (no != 0) {
            return refuse(no);
        }
        int was = now.get(person).money;
        now.get(person).money = v;
        return was;
    }

    int turn(int person, int kind, int figure) {
        int no = !now.there(person) ? -1 : kind < 0 || kind > 5 ? -2 : range(figure, 0, 9);
        if (no != 0) {
            return refuse(no);
        }
        Body body = now.get(person);
        int was = body.kind * 10 + body.figure;
        body.kind = kind;
        body.figure = figure;
        return was;
    }

    int years(int n) {
        int no = range(n, 1, Math.min(60, 999 - now.year));
        if (n < 1) {
            no = -4;
        }
        return no != 0 ? refuse(no) : now.years(n).wealth();
    }

    int hasThen(int person, int n, int what) {
        int no = now.there(person) ? range(n, 0, 60) : -1;
        if (no == 0 && what != 0 && what != 1) {
            no = -2;
        }
        if (no != 0) {
            return refuse(no);
        }
        Shire then = now.copy().years(n);
        return what == 0 ? then.get(person).money : Integer.bitCount(bits(then.size(), other -> then.kin(person, other)));
    }

    int areKin(int one, int other, int n) {
        int no = badTwo(one, other) ? -1 : range(n, 0, 60);
        return no != 0 ? refuse(no) : now.copy().years(n).kin(one, other) ? 1 : 0;
    }

    int allMoney(int n) {
        int no = range(n, 0, 60);
        return no != 0 ? refuse(no) : now.copy().years(n).wealth();
    }

    int ruined(int person) {
        return now.there(person) ? ruin(person) : refuse(-1);
    }

    private int ruin(int person) {
        for (int n = 0; n <= 60; n++) {
            if (now.copy().years(n).get(person).money == 0) {
                return n;
            }
        }
        return -9;
    }

    int first(int what) {
        if (what < 0 || what > 2) {
            return refuse(-2);
        }
        if (what == 2) {
            for (int n = 0; n <= 60; n++) {
                if (now.copy().years(n).moneyAndSignings().equals(now.copy().years(n + 1).moneyAndSignings())) {
                    return n;
                }
            }
            return -9;
        }
        int who = -9;
        int when = -9;
        for (int one = now.size() - 1; one >= 0; one--) {
            int ruin = now.get(one).money > 0 ? ruin(one) : -9;
            if (ruin != -9 && (when == -9 || ruin <= when)) {
                who = one;
                when = ruin;
            }
        }
        return what == 0 ? who : when;
    }

    int richest(int n) {
        int no = range(n, 0, 60);
        if (no != 0) {
            return refuse(no);
        }
        Shire then = now.copy().years(n);
        int best = -9;
        for (int one = then.size() - 1; one >= 0; one--) {
            if (best == -9 || then.get(one).money >= then.get(best).money) {
                best = one;
            }
        }
        return best;
    }

    int kin(int person, int what) {
        if (!now.there(person)) {
            return refuse(-1);
        }
        if (what != 0 && what != 1) {
            return refuse(-2);
        }
        int[][] far = now.distances();
        return bits(now.size(), other -> what == 0 ? far[person][other] == 1 : far[person][other] < 1000);
    }

    int removed(int one, int other) {
        if (badTwo(one, other)) {
            return refuse(-1);
        }
        int far = now.distances()[one][other];
        return far < 1000 ? far : -9;
    }

    int farthest(int what) {
        if (what != 0 && what != 1) {
            return refuse(-2);
        }
        int[][] far = now.distances();
        for (int much = 7; much >= 1; much--) {
            for (int one = 0; one < far.length; one++) {
                for (int other = one + 1; other < far.length; other++) {
                    if (far[one][other] == much) {
                        return what == 0 ? 10 * one + other : much;
                    }
                }
            }
        }
        return -9;
    }

    int groups(int what) {
        if (what < 0 || what > 2) {
            return refuse(-2);
        }
        int[][] far = now.distances();
        TreeSet<Integer> sets = new TreeSet<>();
        int most = 0;
        int threes = 0;
        for (int one = 0; one < far.length; one++) {
            int from = one;
            int group = bits(far.length, other -> far[from][other] < 1000);
            sets.add(group);
            most = Math.max(most, Integer.bitCount(group));
            for (int two = one + 1; two < far.length; two++) {
                for (int three = two + 1; three < far.length; three++) {
                    threes += now.kin(one, two) && now.kin(two, three) && now.kin(one, three) ? 1 : 0;
                }
            }
        }
        return what == 0 ? sets.size() : what == 1 ? most : threes;
    }

    int clan(int what) {
        if (what != 0 && what != 1) {
            return refuse(-2);
        }
        for (int many = now.size(); many >= 1; many--) {
            for (int bits = 0; bits < 1 << now.size(); bits++) {
                if (Integer.bitCount(bits) == many && allKin(bits)) {
                    return what == 0 ? bits : many;
                }
            }
        }
        return 0;
    }

    private boolean allKin(int bits) {
        for (int one = 0; one < now.size(); one++) {
            for (int other = 0; other < one; other++) {
                if ((bits >> one & 1) == 1 && (bits >> other & 1) == 1 && !now.kin(one, other)) {
                    return false;
                }
            }
        }
        return true;
    }

    private int moneyAfter(int one, int n, Consumer<Shire> change) {
        Shire thought = now.copy();
        change.accept(thought);
        return thought.years(n).get(one).money;
    }

    private int best(int person, int n, IntPredicate may, java.util.function.BiConsumer<Shire, Integer> change) {
        int no = now.there(person) ? range(n, 0, 20) : -1;
        if (no != 0) {
            return refuse(no);
        }
        int best = -9;
        int most = moneyAfter(person, n, shire -> { });
        for (int other = 0; other < now.size(); other++) {
            if (other == person || !may.test(other)) {
                continue;
            }
            int tried = other;
            int has = moneyAfter(person, n, shire -> change.accept(shire, tried));
            if (has > most) {
                most = has;
                best = other;
            }
        }
        return best;
    }

    int bestSign(int person, int n) {
        return best(person, n, other -> now.get(other).signed.contains(person)
                && !now.get(person).signed.contains(other) && !now.get(person).foes.contains(other),
                (shire, other) -> shire.get(person).signed.add(other));
    }

    int bestCut(int person, int n) {
        return best(person, n, other -> now.kin(person, other), (shire, other) -> shire.get(person).signed.remove(other));
    }

    int buys(int person, int n) {
        return best(person, n, other -> true, (shire, other) -> shire.swap(person, other));
    }

    int feudCosts(int one, int other, int n) {
        int no = badTwo(one, other) ? -1 : range(n, 0, 60);
        if (no != 0) {
            return 1000000000 - refuse(no);
        }
        int[] wealth = new int[2];
        for (int feud = 0; feud < 2; feud++) {
            Shire thought = now.copy();
            Shire.set(thought.get(one).foes, other, feud == 1);
            Shire.set(thought.get(other).foes, one, feud == 1);
            wealth[feud] = thought.years(n).wealth();
        }
        return wealth[0] - wealth[1];
    }

    int peace() {
        int best = -9;
        int most = now.kinTwos();
        for (int one = 0; one < now.size(); one++) {
            for (int other = one + 1; other < now.size(); other++) {
                Shire thought = now.copy();
                if (thought.get(one).foes.remove(other)) {
                    thought.get(other).foes.remove(one);
                    if (thought.kinTwos() > most) {
                        most = thought.kinTwos();
                        best = 10 * one + other;
                    }
                }
            }
        }
        return best;
    }

    int will(int dead, int one) {
        if (badTwo(dead, one)) {
            return refuse(-1);
        }
        if (!now.kin(dead, one)) {
            return -9;
        }
        int[] parts = new int[now.size()];
        int left = now.get(dead).money;
        while (left > 0) {
            for (int heir = 0; heir < now.size(); heir++) {
                if (left > 0 && now.kin(dead, heir)) {
                    parts[heir]++;
                    left--;
                }
            }
        }
        return parts[one];
    }

    int rooms(int person) {
        if (person != -1 && !now.there(person)) {
            return refuse(-1);
        }
        int[] room = new int[now.size()];
        for (int many = 0; many <= now.size(); many++) {
            if (seat(room, 0, many)) {
                return person == -1 ? many : room[person];
            }
        }
        throw new IllegalStateException("no rooms");
    }

    private boolean seat(int[] room, int one, int many) {
        if (one == room.length) {
            return true;
        }
        for (int tried = 0; tried < many; tried++) {
            boolean free = true;
            for (int other = 0; other < one; other++) {
                free &= room[other] != tried || !now.get(one).foes.contains(other);
            }
            room[one] = tried;
            if (free && seat(room, one + 1, many)) {
                return true;
            }
        }
        return false;
    }

    int couples(int v, int person) {
        int no = range(v, 0, 99);
        if (no == 0 && person != -1 && !now.there(person)) {
            no = -1;
        }
        if (no != 0) {
            return refuse(no);
        }
        int[] best = null;
        int most = -1;
        List<int[]> ways = new ArrayList<>();
        couple(new int[now.size()], 0, v, ways);
        for (int[] way : ways) {
            int many = 0;
            for (int partner : way) {
                many += partner >= 0 ? 1 : 0;
            }
            if (many > most) {
                most = many;
                best = way;
            }
        }
        return person == -1 ? most / 2 : best[person];
    }

    /** Ways in their order; a partner is held one more than his number while the way is made. */
    private void couple(int[] way, int one, int v, List<int[]> ways) {
        if (one == way.length) {
            int[] told = way.clone();
            for (int i = 0; i < told.length; i++) {
                told[i] = told[i] > 0 ? told[i] - 1 : -9;
            }
            ways.add(told);
            return;
        }
        if (way[one] > 0) {
            couple(way, one + 1, v, ways);
            return;
        }
        for (int other = one + 1; other < way.length; other++) {
            if (way[other] == 0 && !now.get(one).foes.contains(other)
                    && Math.abs(now.get(one).money - now.get(other).money) <= v) {
                way[one] = other + 1;
                way[other] = one + 1;
                couple(way, one + 1, v, ways);
                way[one] = 0;
                way[other] = 0;
            }
        }
        way[one] = -1;
        couple(way, one + 1, v, ways);
        way[one] = 0;
    }

    int matters(int what) {
        if (what != 0 && what != 1) {
            return refuse(-2);
        }
        int who = -9;
        int fewest = -9;
        for (int one = 0; one < now.size(); one++) {
            Shire thought = now.copy();
            for (int other = 0; other < now.size(); other++) {
                thought.get(other).signed.remove(one);
            }
            if (who == -9 || thought.kinTwos() < fewest) {
                who = one;
                fewest = thought.kinTwos();
            }
        }
        return what == 0 ? who : fewest;
    }

    long deaths(int dead, int person, int n, int t, int v, int part) {
        int no = badTwo(dead, person) ? -1 : n < 0 || v < 0 || t < 2 ? -4 : n > 7 || t > 20 || v > 99 ? -6
                : part != 0 && part != 1 ? -2 : 0;
        if (no != 0) {
            return 4000000000000000000L - refuse(no);
        }
        BigInteger good = BigInteger.ZERO;
        for (int which = 0; which < 1 << n; which++) {
            Shire thought = now.copy();
            BigInteger ways = BigInteger.ONE;
            for (int year = 0; year < n; year++) {
                boolean dies = (which >> year & 1) == 1;
                thought.year(dies ? dead : -1);
                ways = ways.multiply(BigInteger.valueOf(dies ? 1 : t - 1));
            }
            if (thought.get(person).money >= v) {
                good = good.add(ways);
            }
        }
        return fraction(good, BigInteger.valueOf(t).pow(n), part);
    }

    private static long fraction(BigInteger above, BigInteger below, int part) {
        BigInteger common = above.gcd(below);
        return (part == 0 ? above : below).divide(common).longValueExact();
    }

    long mean(int part) {
        if (part != 0 && part != 1) {
            return 4000000000000000000L - refuse(-2);
        }
        if (now.size() == 0) {
            return part;
        }
        return fraction(BigInteger.valueOf(now.wealth()), BigInteger.valueOf(now.size()), part);
    }

    int two(int a, int b, int n) {
        int no = badTwo(a, b) ? -1 : range(n, 0, 20);
        if (no != 0) {
            return refuse(no);
        }
        int[][][] wins = new int[2][2][2];
        for (int x = 0; x < 2; x++) {
            for (int y = 0; y < 2; y++) {
                Shire thought = now.copy();
                Shire.set(thought.get(a).signed, b, x == 1);
                Shire.set(thought.get(b).signed, a, y == 1);
                thought.years(n);
                wins[x][y] = new int[] {thought.get(a).money, thought.get(b).money};
            }
        }
        for (int x = 0; x < 2; x++) {
            for (int y = 0; y < 2; y++) {
                if (wins[1 - x][y][0] <= wins[x][y][0] && wins[x][1 - y][1] <= wins[x][y][1]) {
                    return 10 * x + y;
                }
            }
        }
        return -9;
    }

    int whatIs(int person, int what) {
        if (!now.there(person)) {
            return refuse(-1);
        }
        if (what != 0 && what != 1) {
            return refuse(-2);
        }
        return bits(what == 0 ? 6 : 10, guess -> {
            for (int n = 0; n < told.size(); n++) {
                int has = moneyAfter(person, n, shire -> {
                    if (what == 0) {
                        shire.get(person).kind = guess;
                    } else {
                        shire.get(person).figure = guess;
                    }
                });
                if (has != told.get(n)) {
                    return false;
                }
            }
            return true;
        });
    }

    int row(int v) {
        int no = range(v, 0, 99);
        if (no == 0 && told.size() == 16) {
            no = -6;
        }
        if (no != 0) {
            return refuse(no);
        }
        told.add(v);
        return told.size();
    }

    int judge() {
        List<Integer> was = new ArrayList<>(told);
        told.clear();
        for (int one = 0; one < was.size(); one++) {
            if (!now.there(one) || now.get(one).money != was.get(one)) {
                return one;
            }
        }
        return -9;
    }

    int clear() {
        int many = told.size();
        told.clear();
        return many;
    }

    int lots(int n, int z, int what) {
        int no = range(n, 1, 20);
        if (no == 0 && what != 0 && what != 1) {
            no = -2;
        }
        if (no != 0) {
            return refuse(no);
        }
        long seed = z;
        int money = 0;
        int twos = 0;
        for (int i = 0; i < n; i++) {
            Shire lot = now.copy();
            for (int one = 0; one < lot.size(); one++) {
                for (int other = one + 1; other < lot.size(); other++) {
                    seed = (int) (seed * 1664525L + 1013904223L);
                    boolean both = Math.floorMod(seed, 1L << 31) / 256 % 2 == 1;
                    Shire.set(lot.get(one).signed, other, both);
                    Shire.set(lot.get(other).signed, one, both);
                }
            }
            lot.years(10);
            money += lot.wealth();
            twos += lot.kinTwos();
        }
        return what == 0 ? money : twos;
    }

    int image() {
        kept = now.copy();
        return now.year;
    }

    int on() {
        if (kept == null) {
            return refuse(-3);
        }
        now = kept.copy();
        return now.year;
    }

    int count(int what) {
        int signings = now.all.stream().mapToInt(body -> body.signed.size()).sum();
        int feuds = now.all.stream().mapToInt(body -> body.foes.size()).sum() / 2;
        int[] answers = {now.size(), now.year, now.wealth(), signings, feuds, now.kinTwos(), told.size(), text.length()};
        if (what >= 0 && what < answers.length) {
            return answers[what];
        }
        return what >= 11 && what <= 16 ? refusals[what - 10] : -9;
    }
}
