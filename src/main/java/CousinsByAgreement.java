import java.util.Arrays;

/** A county of people who are kin by signing to each other; DOC.md tells each call by its promise. */
public final class CousinsByAgreement {
    private static final int MOST_PEOPLE = 8;
    private static final int MOST_MONEY = 99;
    private static final int MOST_FIGURE = 9;
    private static final int MOST_DATE = 999;
    private static final int MOST_LETTERS = 96;
    private static final int MOST_LETTER = 255;
    private static final int MOST_ROW = 16;
    private static final int MOST_YEARS = 60;
    private static final int MOST_PLANNED = 20;
    private static final int MOST_DEADLY = 7;
    private static final int MOST_ODDS = 20;
    private static final int MOST_LOTS = 20;
    private static final int LOT_YEARS = 10;

    private static final int LORD = 1;
    private static final int TINKER = 2;
    private static final int WIDOW = 3;
    private static final int DUKE = 4;
    private static final int AUNT = 5;
    private static final String KIND_LETTERS = "pltwda";

    private static final int FINE = 0;
    private static final int NOBODY = -1;
    private static final int OTHER = -2;
    private static final int STATE = -3;
    private static final int BELOW = -4;
    private static final int ROOM = -6;
    private static final int LAST_REFUSAL = 6;
    private static final int NONE = -9;
    private static final int WITHOUT_SIGN_BIT = 0x7fffffff;

    private static final int BAD_FORM = -1000;
    private static final int BAD_SENSE = -2000;
    private static final int REFUSED_INT = 1000000000;
    private static final long REFUSED_LONG = 4000000000000000000L;

    private static final int TO_SIGN = 0;
    private static final int TO_CUT = 1;
    private static final int TO_BUY = 2;

    private final County now = new County();
    private final County kept = new County();
    private final County mind = new County();
    private final County before = new County();
    private boolean isKept;
    private final Letters letters = new Letters();
    private final int[] told = new int[MOST_ROW];
    private int toldMany;
    private final int[] refused = new int[LAST_REFUSAL + 1];
    private final Ties ties = new Ties();
    private final Seats seats = new Seats();
    private final Pairs pairs = new Pairs();
    private final Odds odds = new Odds();
    private final int[] oneWins = new int[4];
    private final int[] otherWins = new int[4];

    public CousinsByAgreement() {
    }

    public int letter(int c) {
        int no = firstOf(outside(c, 0, MOST_LETTER), letters.isFull() ? ROOM : FINE, FINE);
        if (no != FINE) {
            return refuse(no);
        }
        letters.add(c);
        return letters.many;
    }

    public int county() {
        int bad = letters.badForm();
        int answer = BAD_FORM - bad;
        if (bad < 0) {
            // It is told in mind first: with a fault nothing of it comes.
            mind.become(now);
            answer = letters.tellAll(mind);
            if (answer >= 0) {
                now.become(mind);
            }
        }
        letters.drop();
        return answer;
    }

    public int person(int person, int what) {
        int no = firstOf(nobody(person), otherThan(what, 4), FINE);
        if (no != FINE) {
            return refuse(no);
        }
        switch (what) {
            case 0:
                return now.kinds[person];
            case 1:
                return now.figures[person];
            case 2:
                return now.money[person];
            case 3:
                return Integer.bitCount(now.kinOf(person));
            default:
                return Integer.bitCount(now.signed[person]);
        }
    }

    public int tie(int one, int other, int what) {
        int no = firstOf(notTwo(one, other), otherThan(what, 3), FINE);
        if (no != FINE) {
            return refuse(no);
        }
        switch (what) {
            case 0:
                return bit(now.hasSigned(one, other));
            case 1:
                return bit(now.atFeud(one, other));
            case 2:
                return bit(now.isKin(one, other));
            default:
                return now.dues(one, other);
        }
    }

    public int signs(int one, int other) {
        int no = notTwo(one, other);
        if (no != FINE) {
            return refuse(no);
        }
        now.turnSigning(one, other);
        return bit(now.hasSigned(one, other));
    }

    public int feuds(int one, int other) {
        int no = notTwo(one, other);
        if (no != FINE) {
            return refuse(no);
        }
        now.turnFeud(one, other);
        return bit(now.atFeud(one, other));
    }

    public int gets(int person, int v) {
        int no = firstOf(nobody(person), outside(v, 0, MOST_MONEY), FINE);
        if (no != FINE) {
            return refuse(no);
        }
        int was = now.money[person];
        now.money[person] = v;
        return was;
    }

    public int turn(int person, int kind, int figure) {
        int no = firstOf(nobody(person), otherThan(kind, AUNT), outside(figure, 0, MOST_FIGURE));
        if (no != FINE) {
            return refuse(no);
        }
        int was = 10 * now.kinds[person] + now.figures[person];
        now.kinds[person] = kind;
        now.figures[person] = figure;
        return was;
    }

    public int years(int n) {
        int no = firstOf(outside(n, 1, MOST_YEARS), now.mayPass(n) ? FINE : ROOM, FINE);
        if (no != FINE) {
            return refuse(no);
        }
        now.passYears(n);
        return now.wealth();
    }

    public int hasThen(int person, int n, int what) {
        int no = firstOf(nobody(person), outside(n, 0, MOST_YEARS), otherThan(what, 1));
        if (no != FINE) {
            return refuse(no);
        }
        thinkAhead(n);
        return what == 0 ? mind.money[person] : Integer.bitCount(mind.kinOf(person));
    }

    public int areKin(int one, int other, int n) {
        int no = firstOf(notTwo(one, other), outside(n, 0, MOST_YEARS), FINE);
        if (no != FINE) {
            return refuse(no);
        }
        thinkAhead(n);
        return bit(mind.isKin(one, other));
    }

    public int allMoney(int n) {
        int no = outside(n, 0, MOST_YEARS);
        if (no != FINE) {
            return refuse(no);
        }
        thinkAhead(n);
        return mind.wealth();
    }

    public int ruined(int person) {
        int no = nobody(person);
        if (no != FINE) {
            return refuse(no);
        }
        mind.become(now);
        for (int n = 0; n <= MOST_YEARS; n++) {
            if (mind.money[person] == 0) {
                return n;
            }
            mind.passYear(NOBODY);
        }
        return NONE;
    }

    public int first(int what) {
        int no = otherThan(what, 2);
        if (no != FINE) {
            return refuse(no);
        }
        return what == 2 ? steadyAfter() : firstRuin(what);
    }

    public int richest(int n) {
        int no = outside(n, 0, MOST_YEARS);
        if (no != FINE) {
            return refuse(no);
        }
        thinkAhead(n);
        int best = NONE;
        int most = -1;
        for (int one = 0; one < mind.people; one++) {
            if (mind.money[one] > most) {
                most = mind.money[one];
                best = one;
            }
        }
        return best;
    }

    public int kin(int person, int what) {
        int no = firstOf(nobody(person), otherThan(what, 1), FINE);
        if (no != FINE) {
            return refuse(no);
        }
        if (what == 0) {
            return now.kinOf(person);
        }
        ties.read(now);
        return ties.reachOf(person);
    }

    public int removed(int one, int other) {
        int no = notTwo(one, other);
        if (no != FINE) {
            return refuse(no);
        }
        ties.read(now);
        return ties.steps(one, other);
    }

    public int farthest(int what) {
        int no = otherThan(what, 1);
        if (no != FINE) {
            return refuse(no);
        }
        ties.read(now);
        int most = NONE;
        int two = NONE;
        for (int one = 0; one < now.people; one++) {
            for (int other = one + 1; other < now.people; other++) {
                int far = ties.steps(one, other);
                if (far > most) {
                    most = far;
                    two = 10 * one + other;
                }
            }
        }
        return what == 0 ? two : most;
    }

    public int groups(int what) {
        int no = otherThan(what, 2);
        if (no != FINE) {
            return refuse(no);
        }
        ties.read(now);
        switch (what) {
            case 0:
                return ties.howManyGroups();
            case 1:
                return ties.mostInGroup();
            default:
                return ties.threes();
        }
    }

    public int clan(int what) {
        int no = otherThan(what, 1);
        if (no != FINE) {
            return refuse(no);
        }
        ties.read(now);
        int best = ties.greatestClan();
        return what == 0 ? best : Integer.bitCount(best);
    }

    public int bestSign(int person, int n) {
        return bestChange(TO_SIGN, person, n);
    }

    public int bestCut(int person, int n) {
        return bestChange(TO_CUT, person, n);
    }

    public int feudCosts(int one, int other, int n) {
        int no = firstOf(notTwo(one, other), outside(n, 0, MOST_YEARS), FINE);
        if (no != FINE) {
            return REFUSED_INT - refuse(no);
        }
        return wealthWithFeud(one, other, false, n) - wealthWithFeud(one, other, true, n);
    }

    public int peace() {
        for (int one = 0; one < now.people; one++) {
            for (int other = one + 1; other < now.people; other++) {
                // An ended feud can make no other two kin than its own, so the first that does is the best.
                if (now.atFeud(one, other) && now.hasSigned(one, other) && now.hasSigned(other, one)) {
                    return 10 * one + other;
                }
            }
        }
        return NONE;
    }

    public int will(int dead, int one) {
        int no = notTwo(dead, one);
        if (no != FINE) {
            return refuse(no);
        }
        int heirs = now.kinOf(dead);
        int many = Integer.bitCount(heirs);
        if (many == 0 || !isIn(heirs, one)) {
            return NONE;
        }
        int ahead = Integer.bitCount(heirs & ((1 << one) - 1));
        return now.money[dead] / many + bit(ahead < now.money[dead] % many);
    }

    public int rooms(int person) {
        int no = person == -1 ? FINE : nobody(person);
        if (no != FINE) {
            return refuse(no);
        }
        int fewest = seats.seatAll(now);
        return person == -1 ? fewest : seats.roomOf(person);
    }

    public int couples(int v, int person) {
        int no = firstOf(outside(v, 0, MOST_MONEY), person == -1 ? FINE : nobody(person), FINE);
        if (no != FINE) {
            return refuse(no);
        }
        int many = pairs.pairAll(now, v);
        return person == -1 ? many : pairs.partnerOf(person);
    }

    public int buys(int person, int n) {
        return bestChange(TO_BUY, person, n);
    }

    public int matters(int what) {
        int no = otherThan(what, 1);
        if (no != FINE) {
            return refuse(no);
        }
        int all = now.kinTwos();
        int best = NONE;
        int fewest = NONE;
        for (int one = 0; one < now.people; one++) {
            int left = all - Integer.bitCount(now.kinOf(one));
            if (best == NONE || left < fewest) {
                best = one;
                fewest = left;
            }
        }
        return what == 0 ? best : fewest;
    }

    public long deaths(int dead, int person, int n, int t, int v, int part) {
        int no = firstOf(notTwo(dead, person), notOdds(n, t, v), otherThan(part, 1));
        if (no != FINE) {
            return REFUSED_LONG - refuse(no);
        }
        long good = odds.goodWays(now, dead, person, n, t, v);
        return partOf(good, Odds.allWays(n, t), part);
    }

    public long mean(int part) {
        int no = otherThan(part, 1);
        if (no != FINE) {
            return REFUSED_LONG - refuse(no);
        }
        return partOf(now.wealth(), Math.max(1, now.people), part);
    }

    public int two(int a, int b, int n) {
        int no = firstOf(notTwo(a, b), outside(n, 0, MOST_PLANNED), FINE);
        if (no != FINE) {
            return refuse(no);
        }
        for (int choice = 0; choice < 4; choice++) {
            mind.become(now);
            mind.setSigning(a, b, choice >= 2);
            mind.setSigning(b, a, choice % 2 == 1);
            mind.passYears(n);
            oneWins[choice] = mind.money[a];
            otherWins[choice] = mind.money[b];
        }
        for (int choice = 0; choice < 4; choice++) {
            // Bit 1 of a choice is the first one's, bit 0 the other's: each looks at his own turned alone.
            if (oneWins[choice] >= oneWins[choice ^ 2] && otherWins[choice] >= otherWins[choice ^ 1]) {
                return 10 * (choice / 2) + choice % 2;
            }
        }
        return NONE;
    }

    public int whatIs(int person, int what) {
        int no = firstOf(nobody(person), otherThan(what, 1), FINE);
        if (no != FINE) {
            return refuse(no);
        }
        int last = what == 0 ? AUNT : MOST_FIGURE;
        int bits = 0;
        for (int guess = 0; guess <= last; guess++) {
            mind.become(now);
            if (what == 0) {
                mind.kinds[person] = guess;
            } else {
                mind.figures[person] = guess;
            }
            bits |= bit(goesAsTold(person)) << guess;
        }
        return bits;
    }

    public int row(int v) {
        int no = firstOf(outside(v, 0, MOST_MONEY), toldMany >= MOST_ROW ? ROOM : FINE, FINE);
        if (no != FINE) {
            return refuse(no);
        }
        told[toldMany] = v;
        toldMany++;
        return toldMany;
    }

    public int judge() {
        int wrong = NONE;
        for (int one = 0; one < toldMany && wrong == NONE; one++) {
            if (!now.has(one) || now.money[one] != told[one]) {
                wrong = one;
            }
        }
        toldMany = 0;
        return wrong;
    }

    public int clear() {
        int many = toldMany;
        toldMany = 0;
        return many;
    }

    public int lots(int n, int z, int what) {
        int no = firstOf(outside(n, 1, MOST_LOTS), otherThan(what, 1), FINE);
        if (no != FINE) {
            return refuse(no);
        }
        int seed = z;
        int sum = 0;
        for (int lot = 0; lot < n; lot++) {
            mind.become(now);
            seed = drawSignings(seed);
            mind.passYears(LOT_YEARS);
            sum += what == 0 ? mind.wealth() : mind.kinTwos();
        }
        return sum;
    }

    public int image() {
        kept.become(now);
        isKept = true;
        return now.date;
    }

    public int on() {
        if (!isKept) {
            return refuse(STATE);
        }
        now.become(kept);
        return now.date;
    }

    public int count(int what) {
        switch (what) {
            case 0:
                return now.people;
            case 1:
                return now.date;
            case 2:
                return now.wealth();
            case 3:
                return now.signings();
            case 4:
                return now.feudTwos();
            case 5:
                return now.kinTwos();
            case 6:
                return toldMany;
            case 7:
                return letters.many;
            default:
                return what > 10 && what <= 10 + LAST_REFUSAL ? refused[what - 10] : NONE;
        }
    }

    private int refuse(int why) {
        if (why < 0 && why >= -LAST_REFUSAL) {
            refused[-why]++;
        }
        return why;
    }

    private static int firstOf(int one, int next, int last) {
        if (one != FINE) {
            return one;
        }
        return next != FINE ? next : last;
    }

    private static int outside(int v, int least, int most) {
        if (v < least) {
            return BELOW;
        }
        return v > most ? ROOM : FINE;
    }

    private static int otherThan(int what, int last) {
        return what < 0 || what > last ? OTHER : FINE;
    }

    private int nobody(int one) {
        return now.has(one) ? FINE : NOBODY;
    }

    private int notTwo(int one, int other) {
        return now.hasTwo(one, other) ? FINE : NOBODY;
    }

    /** All that is below comes before all that is above, whichever number it is. */
    private static int notOdds(int n, int t, int v) {
        if (n < 0 || v < 0 || t < 2) {
            return BELOW;
        }
        return n > MOST_DEADLY || t > MOST_ODDS || v > MOST_MONEY ? ROOM : FINE;
    }

    private static int bit(boolean yes) {
        return yes ? 1 : 0;
    }

    private static boolean isIn(int bits, int one) {
        return (bits >> one & 1) == 1;
    }

    private void thinkAhead(int n) {
        mind.become(now);
        mind.passYears(n);
    }

    private int steadyAfter() {
        mind.become(now);
        for (int n = 0; n <= MOST_YEARS; n++) {
            before.become(mind);
            mind.passYear(NOBODY);
            if (mind.isAs(before)) {
                return n;
            }
        }
        return NONE;
    }

    private int firstRuin(int what) {
        mind.become(now);
        for (int n = 1; n <= MOST_YEARS; n++) {
            mind.passYear(NOBODY);
            for (int one = 0; one < now.people; one++) {
                if (now.money[one] > 0 && mind.money[one] == 0) {
                    return what == 0 ? one : n;
                }
            }
        }
        return NONE;
    }

    private int bestChange(int change, int one, int n) {
        int no = firstOf(nobody(one), outside(n, 0, MOST_PLANNED), FINE);
        if (no != FINE) {
            return refuse(no);
        }
        thinkAhead(n);
        int most = mind.money[one];
        int best = NONE;
        for (int other = 0; other < now.people; other++) {
            if (mayChange(change, one, other)) {
                mind.become(now);
                makeChange(change, one, other);
                mind.passYears(n);
                if (mind.money[one] > most) {
                    most = mind.money[one];
                    best = other;
                }
            }
        }
        return best;
    }

    private boolean mayChange(int change, int one, int other) {
        switch (change) {
            case TO_SIGN:
                return now.hasSigned(other, one) && !now.hasSigned(one, other) && !now.atFeud(one, other);
            case TO_CUT:
                return now.isKin(one, other);
            default:
                return one != other;
        }
    }

    private void makeChange(int change, int one, int other) {
        if (change == TO_BUY) {
            mind.changePlaces(one, other);
        } else {
            mind.setSigning(one, other, change == TO_SIGN);
        }
    }

    private int wealthWithFeud(int one, int other, boolean feud, int n) {
        mind.become(now);
        mind.setFeud(one, other, feud);
        mind.passYears(n);
        return mind.wealth();
    }

    private boolean goesAsTold(int person) {
        for (int n = 0; n < toldMany; n++) {
            if (n > 0) {
                mind.passYear(NOBODY);
            }
            if (mind.money[person] != told[n]) {
                return false;
            }
        }
        return true;
    }

    private int drawSignings(int seed) {
        int z = seed;
        for (int one = 0; one < mind.people; one++) {
            for (int other = one + 1; other < mind.people; other++) {
                z = z * 1664525 + 1013904223;
                boolean both = (z & WITHOUT_SIGN_BIT) / 256 % 2 == 1;
                mind.setSigning(one, other, both);
                mind.setSigning(other, one, both);
            }
        }
        return z;
    }

    private static long partOf(long above, long below, int part) {
        long common = commonDivisor(above, below);
        if (common == 0) {
            return 0;
        }
        return (part == 0 ? above : below) / common;
    }

    private static long commonDivisor(long one, long other) {
        long a = one;
        long b = other;
        // Numbers below two to the 32nd are through after some 50 turns.
        for (int turn = 0; turn < 100 && b != 0; turn++) {
            long rest = a % b;
            a = b;
            b = rest;
        }
        return a;
    }

    /** All that an image keeps: the people, what stands between them, the year. */
    private static final class County {
        private final int[] kinds = new int[MOST_PEOPLE];
        private final int[] figures = new int[MOST_PEOPLE];
        private final int[] money = new int[MOST_PEOPLE];
        private final int[] signed = new int[MOST_PEOPLE];
        private final int[] foes = new int[MOST_PEOPLE];
        private int people;
        private int date;

        void become(County model) {
            System.arraycopy(model.kinds, 0, kinds, 0, MOST_PEOPLE);
            System.arraycopy(model.figures, 0, figures, 0, MOST_PEOPLE);
            System.arraycopy(model.money, 0, money, 0, MOST_PEOPLE);
            System.arraycopy(model.signed, 0, signed, 0, MOST_PEOPLE);
            System.arraycopy(model.foes, 0, foes, 0, MOST_PEOPLE);
            people = model.people;
            date = model.date;
        }

        /** Whether a year has left money and signings as they were; the year itself never is. */
        boolean isAs(County model) {
            for (int one = 0; one < people; one++) {
                if (money[one] != model.money[one] || signed[one] != model.signed[one]) {
                    return false;
                }
            }
            return true;
        }

        boolean has(int one) {
            return one >= 0 && one < people;
        }

        boolean hasTwo(int one, int other) {
            return has(one) && has(other) && one != other;
        }

        boolean welcome(int kind, int figure, int v) {
            if (people >= MOST_PEOPLE) {
                return false;
            }
            // Nobody's row of signings or feuds is ever written before he comes: it is empty.
            kinds[people] = kind;
            figures[people] = figure;
            money[people] = v;
            people++;
            return true;
        }

        boolean enrich(int one, int v) {
            if (!has(one)) {
                return false;
            }
            money[one] = v;
            return true;
        }

        boolean hasSigned(int one, int other) {
            return hasTwo(one, other) && isIn(signed[one], other);
        }

        boolean atFeud(int one, int other) {
            return hasTwo(one, other) && isIn(foes[one], other);
        }

        boolean isKin(int one, int other) {
            return hasTwo(one, other) && isIn(kinOf(one), other);
        }

        int kinOf(int one) {
            if (!has(one)) {
                return 0;
            }
            int bits = signed[one] & ~foes[one];
            for (int other = 0; other < people; other++) {
                if (!isIn(signed[other], one)) {
                    bits &= ~(1 << other);
                }
            }
            return bits;
        }

        boolean turnSigning(int one, int other) {
            return setSigning(one, other, !hasSigned(one, other));
        }

        boolean setSigning(int one, int other, boolean yes) {
            if (!hasTwo(one, other)) {
                return false;
            }
            signed[one] = withBit(signed[one], other, yes);
            return true;
        }

        boolean signBoth(int one, int other) {
            return setSigning(one, other, true) && setSigning(other, one, true);
        }

        boolean turnFeud(int one, int other) {
            return setFeud(one, other, !atFeud(one, other));
        }

        boolean setFeud(int one, int other, boolean yes) {
            if (!hasTwo(one, other)) {
                return false;
            }
            foes[one] = withBit(foes[one], other, yes);
            foes[other] = withBit(foes[other], one, yes);
            return true;
        }

        private static int withBit(int bits, int one, boolean yes) {
            return yes ? bits | 1 << one : bits & ~(1 << one);
        }

        void changePlaces(int one, int other) {
            if (!hasTwo(one, other)) {
                return;
            }
            changeIn(signed, one, other);
            changeIn(foes, one, other);
        }

        private void changeIn(int[] rows, int one, int other) {
            int kept = rows[one];
            rows[one] = rows[other];
            rows[other] = kept;
            for (int any = 0; any < people; any++) {
                int differ = (rows[any] >> one ^ rows[any] >> other) & 1;
                rows[any] ^= differ << one | differ << other;
            }
        }

        /** What one of them pays another one of them. */
        int dues(int one, int other) {
            int lords = 1 + figures[one] / 3;
            int widows = money[other] < money[one] ? 1 : 0;
            switch (kinds[one]) {
                case LORD:
                    return lords;
                case TINKER:
                    return 0;
                case WIDOW:
                    return widows;
                case DUKE:
                    return 2 * lords;
                case AUNT:
                    return widows + 1;
                default:
                    return 1;
            }
        }

        boolean mayPass(int n) {
            return n >= 1 && n <= MOST_YEARS && date + n <= MOST_DATE;
        }

        boolean passYears(int n) {
            for (int year = 0; year < n; year++) {
                passYear(NOBODY);
            }
            return true;
        }

        /** A year in which the absent one (NOBODY for none) neither pays nor is paid. */
        void passYear(int absent) {
            date++;
            for (int one = 0; one < people; one++) {
                // His own paying can end only ties that he has passed already, so his kin may be read once.
                int takers = one == absent ? 0 : kinOf(one);
                for (int other = 0; other < people && takers != 0; other++) {
                    if (isIn(takers, other) && other != absent) {
                        pay(one, other);
                    }
                }
            }
        }

        private void pay(int one, int other) {
            int due = dues(one, other);
            if (money[one] < due) {
                signed[one] &= ~(1 << other);
                return;
            }
            money[other] = Math.min(MOST_MONEY, money[other] + due);
            money[one] -= due;
        }

        int wealth() {
            int sum = 0;
            for (int one = 0; one < people; one++) {
                sum += money[one];
            }
            return sum;
        }

        int signings() {
            int sum = 0;
            for (int one = 0; one < people; one++) {
                sum += Integer.bitCount(signed[one]);
            }
            return sum;
        }

        int feudTwos() {
            int sum = 0;
            for (int one = 0; one < people; one++) {
                sum += Integer.bitCount(foes[one]);
            }
            return sum / 2;
        }

        int kinTwos() {
            int sum = 0;
            for (int one = 0; one < people; one++) {
                sum += Integer.bitCount(kinOf(one));
            }
            return sum / 2;
        }
    }

    /** The letters that have come, and the county that they tell. */
    private static final class Letters {
        private static final int END = -1;

        private final int[] marks = new int[MOST_LETTERS];
        private int many;

        boolean isFull() {
            return many >= MOST_LETTERS;
        }

        void add(int c) {
            if (!isFull()) {
                marks[many] = c;
                many++;
            }
        }

        void drop() {
            many = 0;
        }

        private int at(int place) {
            return place >= 0 && place < many ? marks[place] : END;
        }

        /** The place of the first letter with which no county can go on; -1 where there is none. */
        int badForm() {
            if (many == 0) {
                return 0;
            }
            int start = 0;
            while (start < many) {
                int length = lengthFrom(start);
                if (length <= 0) {
                    return start;
                }
                int bad = badWithin(start, length);
                if (bad >= 0) {
                    return bad;
                }
                start += length;
            }
            return -1;
        }

        private int lengthFrom(int start) {
            switch (at(start)) {
                case 'p':
                    return 6;
                case 'm':
                    return 5;
                case 's':
                case 'b':
                case 'f':
                case 'y':
                    return 4;
                default:
                    return 0;
            }
        }

        private int badWithin(int start, int length) {
            int last = start + length - 1;
            for (int place = start + 1; place < last; place++) {
                boolean isKind = place == start + 1 && at(start) == 'p';
                if (isKind ? kindAt(place) < 0 : !isDigit(at(place))) {
                    return place;
                }
            }
            return at(last) == ';' ? -1 : last;
        }

        private int kindAt(int place) {
            int c = at(place);
            return c < 0 ? -1 : KIND_LETTERS.indexOf((char) c);
        }

        private static boolean isDigit(int c) {
            return c >= '0' && c <= '9';
        }

        private int digitAt(int place) {
            return at(place) - '0';
        }

        private int numberAt(int place) {
            return 10 * digitAt(place) + digitAt(place + 1);
        }

        /** How many statements came into the county, or the fault of the first that can't. */
        int tellAll(County county) {
            int statements = 0;
            int start = 0;
            while (start < many) {
                int length = lengthFrom(start);
                if (length <= 0 || !tellOne(county, start)) {
                    return BAD_SENSE - start;
                }
                statements++;
                start += length;
            }
            return statements;
        }

        private boolean tellOne(County county, int start) {
            int one = digitAt(start + 1);
            int other = digitAt(start + 2);
            switch (at(start)) {
                case 'p':
                    return county.welcome(kindAt(start + 1), other, numberAt(start + 3));
                case 's':
                    return county.turnSigning(one, other);
                case 'b':
                    return county.signBoth(one, other);
                case 'f':
                    return county.turnFeud(one, other);
                case 'm':
                    return county.enrich(one, numberAt(start + 2));
                default:
                    return county.mayPass(numberAt(start + 1)) && county.passYears(numberAt(start + 1));
            }
        }
    }

    /** Who is kin to whom, read once, as rows of bits. */
    private static final class Ties {
        private final int[] rows = new int[MOST_PEOPLE];
        private int people;

        void read(County county) {
            people = county.people;
            for (int one = 0; one < people; one++) {
                rows[one] = county.kinOf(one);
            }
        }

        private int spread(int bits) {
            int all = bits;
            for (int one = 0; one < people; one++) {
                if (isIn(bits, one)) {
                    all |= rows[one];
                }
            }
            return all;
        }

        int steps(int one, int other) {
            int reached = 1 << one;
            for (int step = 1; step < people; step++) {
                reached = spread(reached);
                if (isIn(reached, other)) {
                    return step;
                }
            }
            return NONE;
        }

        int reachOf(int one) {
            int reached = 1 << one;
            for (int step = 1; step < people; step++) {
                reached = spread(reached);
            }
            return reached;
        }

        int howManyGroups() {
            int found = 0;
            int seen = 0;
            for (int one = 0; one < people; one++) {
                if (!isIn(seen, one)) {
                    found++;
                    seen |= reachOf(one);
                }
            }
            return found;
        }

        int mostInGroup() {
            int most = 0;
            for (int one = 0; one < people; one++) {
                most = Math.max(most, Integer.bitCount(reachOf(one)));
            }
            return most;
        }

        int threes() {
            int corners = 0;
            for (int one = 0; one < people; one++) {
                for (int other = 0; other < people; other++) {
                    if (isIn(rows[one], other)) {
                        corners += Integer.bitCount(rows[one] & rows[other]);
                    }
                }
            }
            // Each three has been met once for every order of its three.
            return corners / 6;
        }

        int greatestClan() {
            int best = 0;
            int sets = 1 << people;
            for (int bits = 1; bits < sets; bits++) {
                if (Integer.bitCount(bits) > Integer.bitCount(best) && isClan(bits)) {
                    best = bits;
                }
            }
            return best;
        }

        private boolean isClan(int bits) {
            for (int one = 0; one < people; one++) {
                if (isIn(bits, one) && (bits & ~(1 << one) & ~rows[one]) != 0) {
                    return false;
                }
            }
            return true;
        }
    }

    /** The people in the fewest rooms without a feud in one of them. */
    private static final class Seats {
        private final int[] inRoom = new int[MOST_PEOPLE];
        private final int[] foes = new int[MOST_PEOPLE];
        private int people;

        int seatAll(County county) {
            people = county.people;
            System.arraycopy(county.foes, 0, foes, 0, MOST_PEOPLE);
            Arrays.fill(inRoom, 0);
            for (int most = 0; most < people; most++) {
                if (seatFrom(0, 0, most)) {
                    return most;
                }
            }
            // A room for each always does.
            seatFrom(0, 0, people);
            return people;
        }

        /** The first seating opens rooms in their order, so no room beyond the next unused one is tried. */
        private boolean seatFrom(int one, int used, int most) {
            if (one >= people || one >= MOST_PEOPLE) {
                return true;
            }
            for (int room = 0; room <= used && room < most && room < MOST_PEOPLE; room++) {
                if ((inRoom[room] & foes[one]) == 0) {
                    inRoom[room] |= 1 << one;
                    if (seatFrom(one + 1, Math.max(used, room + 1), most)) {
                        return true;
                    }
                    inRoom[room] &= ~(1 << one);
                }
            }
            return false;
        }

        int roomOf(int one) {
            for (int room = 0; room < MOST_PEOPLE; room++) {
                if (isIn(inRoom[room], one)) {
                    return room;
                }
            }
            return NONE;
        }
    }

    /** The most couples, by the most that each set of people can make. */
    private static final class Pairs {
        private final int[] most = new int[1 << MOST_PEOPLE];
        private final int[] may = new int[MOST_PEOPLE];
        private final int[] partners = new int[MOST_PEOPLE];
        private int people;

        int pairAll(County county, int apart) {
            people = county.people;
            for (int one = 0; one < people; one++) {
                may[one] = fitting(county, one, apart);
            }
            int sets = 1 << people;
            most[0] = 0;
            for (int set = 1; set < sets && set < most.length; set++) {
                most[set] = mostOf(set);
            }
            choose(sets - 1);
            return most[sets - 1];
        }

        private static int fitting(County county, int one, int apart) {
            int bits = 0;
            for (int other = 0; other < county.people; other++) {
                boolean near = Math.abs(county.money[one] - county.money[other]) <= apart;
                if (other != one && near && !county.atFeud(one, other)) {
                    bits |= 1 << other;
                }
            }
            return bits;
        }

        private int mostOf(int set) {
            int one = leastIn(set);
            int rest = set & ~(1 << one);
            int best = most[rest];
            for (int other = one + 1; other < people; other++) {
                if (isIn(may[one] & rest, other)) {
                    best = Math.max(best, 1 + most[rest & ~(1 << other)]);
                }
            }
            return best;
        }

        private int leastIn(int set) {
            int one = 0;
            while (one < people - 1 && !isIn(set, one)) {
                one++;
            }
            return one;
        }

        private void choose(int all) {
            Arrays.fill(partners, NONE);
            int free = all;
            for (int one = 0; one < people; one++) {
                if (isIn(free, one)) {
                    int other = leastPartner(one, free);
                    free &= ~(1 << one);
                    if (other >= 0 && other < people) {
                        partners[one] = other;
                        partners[other] = one;
                        free &= ~(1 << other);
                    }
                }
            }
        }

        /** The least one by whom the free still make as many couples as they can; -9 if nobody. */
        private int leastPartner(int one, int free) {
            int rest = free & ~(1 << one);
            for (int other = one + 1; other < people; other++) {
                if (isIn(may[one] & rest, other) && 1 + most[rest & ~(1 << other)] == most[free]) {
                    return other;
                }
            }
            return NONE;
        }

        int partnerOf(int one) {
            return one >= 0 && one < people ? partners[one] : NONE;
        }
    }

    /** Years that each go by with one absent or not, with a county for each year's depth. */
    private static final class Odds {
        private final County[] depths = new County[MOST_DEADLY + 1];
        private int absent;
        private int watched;
        private int span;
        private int against;
        private int least;

        Odds() {
            for (int depth = 0; depth <= MOST_DEADLY; depth++) {
                depths[depth] = new County();
            }
        }

        long goodWays(County county, int dead, int person, int n, int t, int v) {
            absent = dead;
            watched = person;
            span = n;
            against = t - 1;
            least = v;
            depths[0].become(county);
            return waysFrom(0);
        }

        static long allWays(int n, int t) {
            long all = 1;
            for (int year = 0; year < n; year++) {
                all *= t;
            }
            return all;
        }

        private long waysFrom(int depth) {
            if (depth < 0 || depth > MOST_DEADLY) {
                return 0;
            }
            County here = depths[depth];
            if (depth >= span || depth >= MOST_DEADLY) {
                return here.has(watched) && here.money[watched] >= least ? 1 : 0;
            }
            County next = depths[depth + 1];
            next.become(here);
            next.passYear(absent);
            long absentWays = waysFrom(depth + 1);
            next.become(here);
            next.passYear(NOBODY);
            return absentWays + against * waysFrom(depth + 1);
        }
    }
}
