import java.math.BigInteger;

/** The edges that the document names, each at both of its sides: nobody, all that there is room for, the last year. */
public final class EdgeTest {
    private static final Check CHECK = new Check("EdgeTest");
    private static final int LEAST = Integer.MIN_VALUE;
    private static final int GREATEST = Integer.MAX_VALUE;
    private static final String EIGHT_TINKERS = "pt999;".repeat(8);

    private EdgeTest() {
    }

    private static void due(String call, long got, long want) {
        CHECK.due(call, got, want);
    }

    public static void main(String[] args) {
        nobodyInThought();
        nobodyInState();
        oneAlone();
        eightOfAll();
        eightAtFeud();
        chainOfEight();
        promises4And9Ends();
        promise5Figures();
        promise5Widows();
        promise10JustEnough();
        promise10MostMoney();
        promise10YearEnds();
        promises11To13SixtyYears();
        promises14And15Ends();
        promise16SixtyYears();
        promises22And23TwentyYears();
        promise24SixtyYears();
        promise26Parts();
        promise28Apart();
        promise29TwentyYears();
        promise31Ends();
        promise32Ends();
        promise34SixteenNumbers();
        promises35To37Ends();
        promise38Seeds();
        promises39And40Ends();
        thoughtInTheLastYear();
        CHECK.end();
    }

    private static CousinsByAgreement allSigned(String text) {
        CousinsByAgreement x = Told.county(text);
        for (int one = 0; one < x.count(0); one++) {
            for (int other = 0; other < x.count(0); other++) {
                if (one != other) {
                    x.signs(one, other);
                }
            }
        }
        return x;
    }

    private static void nobodyInThought() {
        CousinsByAgreement x = new CousinsByAgreement();
        due("all money", x.allMoney(0), 0);
        due("first", x.first(0), -9);
        due("first, when", x.first(1), -9);
        due("steady", x.first(2), 0);
        due("richest", x.richest(60), -9);
        due("farthest", x.farthest(0), -9);
        due("farthest, how much", x.farthest(1), -9);
        for (int what = 0; what < 3; what++) {
            due("groups " + what, x.groups(what), 0);
        }
        due("clan", x.clan(0), 0);
        due("clan, how many", x.clan(1), 0);
        due("peace", x.peace(), -9);
        due("rooms", x.rooms(-1), 0);
        due("couples", x.couples(0, -1), 0);
        due("matters", x.matters(0), -9);
        due("matters, how many", x.matters(1), -9);
        due("mean above", x.mean(0), 0);
        due("mean below", x.mean(1), 1);
        due("lots", x.lots(20, GREATEST, 0), 0);
        due("lots, twos", x.lots(1, LEAST, 1), 0);
        for (int what = 11; what <= 16; what++) {
            due("nothing was refused", x.count(what), 0);
        }
    }

    private static void nobodyInState() {
        CousinsByAgreement x = new CousinsByAgreement();
        due("judge without a row", x.judge(), -9);
        due("clear without a row", x.clear(), 0);
        due("image of nobody", x.image(), 0);
        due("a year without people", x.years(1), 0);
        due("is a year", x.count(1), 1);
        Told.tell(x, "pp050;");
        due("on to nobody", x.on(), 0);
        due("nobody again", x.count(0), 0);
        due("nor money", x.count(2), 0);
        x.row(0);
        due("nobody there", x.judge(), 0);
        due("statements", Told.tell(x, "y60;"), 1);
    }

    private static void oneAlone() {
        CousinsByAgreement x = Told.county("pd999;");
        due("groups", x.groups(0), 1);
        due("most", x.groups(1), 1);
        due("threes", x.groups(2), 0);
        due("clan", x.clan(0), 1);
        due("clan, how many", x.clan(1), 1);
        due("kin", x.kin(0, 0), 0);
        due("reaches himself", x.kin(0, 1), 1);
        due("farthest", x.farthest(0), -9);
        due("rooms", x.rooms(-1), 1);
        due("his room", x.rooms(0), 0);
        due("couples", x.couples(99, -1), 0);
        due("no partner", x.couples(99, 0), -9);
        due("nobody to sign to", x.bestSign(0, 20), -9);
        due("nobody to cut", x.bestCut(0, 20), -9);
        due("nobody to buy from", x.buys(0, 20), -9);
        due("matters", x.matters(0), 0);
        due("matters, how many", x.matters(1), 0);
        due("richest", x.richest(0), 0);
        due("first", x.first(0), -9);
        due("steady", x.first(2), 0);
        due("himself twice", x.tie(0, 0, 0), -1);
        due("mean", x.mean(0), 99);
    }

    private static void eightOfAll() {
        CousinsByAgreement x = allSigned(EIGHT_TINKERS);
        int[] counts = {8, 0, 792, 56, 0, 28, 0, 0};
        for (int what = 0; what < counts.length; what++) {
            due("count " + what, x.count(what), counts[what]);
        }
        due("kin of the last", x.person(7, 3), 7);
        due("signed by the last", x.person(7, 4), 7);
        due("kin, bits", x.kin(7, 0), 127);
        due("kin of the first, bits", x.kin(0, 0), 254);
        due("reached", x.kin(7, 1), 255);
        due("groups", x.groups(0), 1);
        due("most", x.groups(1), 8);
        due("threes", x.groups(2), 56);
        due("clan", x.clan(0), 255);
        due("clan, how many", x.clan(1), 8);
        due("farthest", x.farthest(0), 1);
        due("farthest, how much", x.farthest(1), 1);
        due("matters", x.matters(0), 0);
        due("matters, how many", x.matters(1), 21);
        due("rooms", x.rooms(-1), 1);
        due("couples", x.couples(0, -1), 4);
        due("the last one's partner", x.couples(0, 7), 6);
        due("peace", x.peace(), -9);
        due("the last", x.tie(7, 6, 2), 1);
        due("one too many", x.tie(7, 8, 2), -1);
        due("all money behind 60", x.allMoney(60), 792);
        due("steady", x.first(2), 0);
        due("never ruined", x.first(0), -9);
        due("richest", x.richest(60), 0);
        due("mean", x.mean(0), 99);
        due("mean by 1", x.mean(1), 1);
        due("twenty lots", x.lots(20, 7, 0), 15840);
        due("the two last", x.removed(6, 7), 1);
    }

    private static void eightAtFeud() {
        CousinsByAgreement x = allSigned(EIGHT_TINKERS);
        for (int one = 0; one < 8; one++) {
            for (int other = one + 1; other < 8; other++) {
                x.feuds(other, one);
            }
        }
        due("signings", x.count(3), 56);
        due("feuds", x.count(4), 28);
        due("kin", x.count(5), 0);
        due("groups", x.groups(0), 8);
        due("most", x.groups(1), 1);
        due("clan", x.clan(0), 1);
        due("clan, how many", x.clan(1), 1);
        due("rooms", x.rooms(-1), 8);
        for (int one = 0; one < 8; one++) {
            due("room of " + one, x.rooms(one), one);
        }
        due("couples", x.couples(99, -1), 0);
        due("no partner", x.couples(99, 7), -9);
        due("peace", x.peace(), 1);
        due("matters", x.matters(1), 0);
        for (int other = 1; other < 8; other++) {
            x.feuds(0, other);
        }
        due("the first has no feud: with any one", x.rooms(-1), 7);
        due("his kin", x.kin(0, 0), 254);
        due("the next feud", x.peace(), 12);
    }

    private static void chainOfEight() {
        CousinsByAgreement x = Told.county(EIGHT_TINKERS + "b01;b12;b23;b34;b45;b56;b67;");
        due("farthest", x.farthest(0), 7);
        due("farthest, how much", x.farthest(1), 7);
        due("seven steps", x.removed(0, 7), 7);
        due("and back", x.removed(7, 0), 7);
        due("reached", x.kin(0, 1), 255);
        x.signs(7, 0);
        x.signs(0, 7);
        due("a ring of eight", x.farthest(1), 4);
        due("the first of four steps", x.farthest(0), 4);
        due("no three", x.groups(2), 0);
        x.signs(3, 4);
        due("cut in the middle", x.removed(3, 4), 7);
        due("farthest then", x.farthest(0), 34);
    }

    private static void promises4And9Ends() {
        String kinds = "pltwda";
        for (int kind = 0; kind < 6; kind++) {
            CousinsByAgreement x = Told.county("p" + kinds.charAt(kind) + "000;p" + kinds.charAt(kind) + "999;");
            for (int one = 0; one < 2; one++) {
                due("kind", x.person(one, 0), kind);
                due("figure", x.person(one, 1), 9 * one);
                due("money", x.person(one, 2), 99 * one);
                due("turns into what he is", x.turn(one, kind, 9 * one), 10 * kind + 9 * one);
                due("gets what he has", x.gets(one, 99 * one), 99 * one);
            }
        }
    }

    private static void promise5Figures() {
        int[] lords = {1, 1, 1, 2, 2, 2, 3, 3, 3, 4};
        CousinsByAgreement x = Told.county("pp010;pp010;");
        for (int figure = 0; figure <= 9; figure++) {
            int[] pays = {1, lords[figure], 0, 0, 2 * lords[figure], 1};
            for (int kind = 0; kind < 6; kind++) {
                x.turn(0, kind, figure);
                due("kind " + kind + " of figure " + figure, x.tie(0, 1, 3), pays[kind]);
            }
        }
    }

    private static void promise5Widows() {
        CousinsByAgreement x = Told.county("pw950;pa950;pt000;");
        int[] money = {0, 49, 50, 51, 99};
        int[] widows = {1, 1, 0, 0, 0};
        for (int i = 0; i < money.length; i++) {
            x.gets(2, money[i]);
            due("widow to one with " + money[i], x.tie(0, 2, 3), widows[i]);
            due("aunt to one with " + money[i], x.tie(1, 2, 3), widows[i] + 1);
        }
        x = Told.county("pw000;pa000;pt000;b02;b12;");
        due("none has less than nothing", x.tie(0, 2, 3), 0);
        due("an aunt pays all the same", x.tie(1, 2, 3), 1);
        x.years(1);
        due("who pays nothing can pay it", x.tie(0, 2, 2), 1);
        due("who lacks 1 signs no more", x.tie(1, 2, 0), 0);
    }

    /** A year in which the first pays the tinker: what they have then, and whether he still has signed. */
    private static void year(String payer, String tinker, int payerThen, int tinkerThen, int signed) {
        CousinsByAgreement x = Told.county(payer + tinker + "b01;");
        due(payer + tinker + " all", x.years(1), payerThen + tinkerThen);
        due(payer + tinker + " payer", x.person(0, 2), payerThen);
        due(payer + tinker + " tinker", x.person(1, 2), tinkerThen);
        due(payer + tinker + " signed", x.tie(0, 1, 0), signed);
        due(payer + tinker + " the tinker has signed", x.tie(1, 0, 0), 1);
    }

    private static void promise10JustEnough() {
        year("pp001;", "pt000;", 0, 1, 1);
        year("pp000;", "pt000;", 0, 0, 0);
        year("pl904;", "pt000;", 0, 4, 1);
        year("pl903;", "pt000;", 3, 0, 0);
        year("pd908;", "pt000;", 0, 8, 1);
        year("pd907;", "pt000;", 7, 0, 0);
        year("pw001;", "pt000;", 0, 1, 1);
        year("pw000;", "pt000;", 0, 0, 1);
        year("pa002;", "pt001;", 0, 3, 1);
        year("pa001;", "pt000;", 1, 0, 0);
        year("pa001;", "pt001;", 0, 2, 1);
        year("pt000;", "pt000;", 0, 0, 1);
    }

    private static void promise10MostMoney() {
        year("pp099;", "pt098;", 98, 99, 1);
        year("pp099;", "pt099;", 98, 99, 1);
        year("pl999;", "pt095;", 95, 99, 1);
        year("pl999;", "pt096;", 95, 99, 1);
        year("pd999;", "pt091;", 91, 99, 1);
        year("pd999;", "pt092;", 91, 99, 1);
        year("pd999;", "pt099;", 91, 99, 1);
    }

    private static void promise10YearEnds() {
        CousinsByAgreement x = Told.county("pp099;pt000;b01;");
        due("one year", x.years(1), 99);
        due("paid once", x.person(1, 2), 1);
        due("sixty years", x.years(60), 99);
        due("paid sixty times more", x.person(1, 2), 61);
        due("year", x.count(1), 61);
        x = new CousinsByAgreement();
        for (int i = 0; i < 15; i++) {
            x.years(60);
        }
        x.years(39);
        due("up to 999 by the most", x.years(60), 0);
        due("year 999", x.count(1), 999);
        due("not 1000", x.years(1), -6);
        due("none is below still", x.years(0), -4);
        due("year stays", x.count(1), 999);
    }

    private static void promises11To13SixtyYears() {
        CousinsByAgreement x = Told.county("pp060;pt000;b01;");
        due("has behind 59", x.hasThen(0, 59, 0), 1);
        due("has behind 60", x.hasThen(0, 60, 0), 0);
        due("kin behind 60", x.hasThen(0, 60, 1), 1);
        due("are kin behind 60", x.areKin(0, 1, 60), 1);
        x.gets(0, 59);
        due("are kin behind 59", x.areKin(0, 1, 59), 1);
        due("no more behind 60", x.areKin(1, 0, 60), 0);
        due("kin no more behind 60", x.hasThen(1, 60, 1), 0);
        x = Told.county("pp099;pt099;b01;");
        due("all behind 0", x.allMoney(0), 198);
        due("all behind 59", x.allMoney(59), 139);
        due("all behind 60", x.allMoney(60), 138);
    }

    private static void promises14And15Ends() {
        CousinsByAgreement x = Told.county("pp001;pt000;b01;");
        int[] money = {0, 1, 2, 59, 60, 61};
        int[] ruined = {0, 1, 2, 59, 60, -9};
        int[] first = {-9, 1, 2, 59, 60, -9};
        int[] steady = {1, 2, 3, 60, -9, -9};
        for (int i = 0; i < money.length; i++) {
            x.gets(0, money[i]);
            due("ruined with " + money[i], x.ruined(0), ruined[i]);
            due("first with " + money[i], x.first(1), first[i]);
            due("who with " + money[i], x.first(0), first[i] < 0 ? -9 : 0);
            due("steady with " + money[i], x.first(2), steady[i]);
        }
    }

    private static void promise16SixtyYears() {
        CousinsByAgreement x = Told.county("pt059;pt000;pp060;b12;");
        due("richest now", x.richest(0), 2);
        due("behind 1", x.richest(1), 0);
        due("behind 59", x.richest(59), 0);
        due("behind 60", x.richest(60), 1);
    }

    private static void promises22And23TwentyYears() {
        // The one pays 3 for 13 years, 39 in all; the other 2 for 20 years.
        CousinsByAgreement x = Told.county("pt000;pl639;pl340;s10;s20;");
        due("to sign for 19 years", x.bestSign(0, 19), 1);
        due("to sign for 20 years", x.bestSign(0, 20), 2);
        due("to sign for 1 year", x.bestSign(0, 1), 1);
        // Without 1 he has 2 less a year, 3 behind 19 years; without 2 he has 2 left of 41, paying 3.
        x = Told.county("pl641;pt076;pp342;b01;b02;");
        due("to cut for 19 years", x.bestCut(0, 19), 1);
        due("to cut for 20 years", x.bestCut(0, 20), 2);
    }

    private static void promise24SixtyYears() {
        CousinsByAgreement x = Told.county("pp099;pt099;b01;");
        due("costs of no year", x.feudCosts(0, 1, 0), 0);
        due("costs of 59", x.feudCosts(0, 1, 59), -59);
        due("costs of 60", x.feudCosts(1, 0, 60), -60);
        // A duke of 99 pays 8 to one who can have no more: for 12 years, and keeps 3.
        x = Told.county("pt099;pd999;b01;");
        due("the most of a year", x.feudCosts(0, 1, 1), -8);
        due("till he can pay no more", x.feudCosts(0, 1, 60), -96);
    }

    private static void promise26Parts() {
        CousinsByAgreement x = allSigned(EIGHT_TINKERS);
        int[] money = {0, 1, 6, 7, 8, 99};
        int[] firsts = {0, 1, 1, 1, 2, 15};
        int[] lasts = {0, 0, 0, 1, 1, 14};
        for (int i = 0; i < money.length; i++) {
            x.gets(7, money[i]);
            x.gets(0, money[i]);
            due("the first of " + money[i], x.will(7, 0), firsts[i]);
            due("the last of " + money[i], x.will(7, 6), lasts[i]);
            due("the first behind him of " + money[i], x.will(0, 1), firsts[i]);
            due("the last behind him of " + money[i], x.will(0, 7), lasts[i]);
        }
        x = Told.county("pp099;pp000;pp000;b02;s01;");
        due("one has all", x.will(0, 2), 99);
        due("one who is none", x.will(0, 1), -9);
        due("who has none leaves none", x.will(2, 0), 0);
    }

    private static void promise28Apart() {
        CousinsByAgreement x = Told.county("pp000;pp099;");
        due("98 apart", x.couples(98, -1), 0);
        due("98 apart, partner", x.couples(98, 0), -9);
        due("99 apart", x.couples(99, -1), 1);
        due("99 apart, partner", x.couples(99, 1), 0);
        x.gets(1, 1);
        due("1 apart by 0", x.couples(0, -1), 0);
        due("1 apart by 1", x.couples(1, -1), 1);
        x.gets(1, 0);
        due("0 apart by 0", x.couples(0, -1), 1);
    }

    private static void promise29TwentyYears() {
        // In the place of 1 he has the kin who can pay for 19 years, in that of 2 the one who can for longer.
        CousinsByAgreement x = Told.county("pt811;pl094;pp419;b12;");
        due("for 19 years", x.buys(0, 19), 1);
        due("for 20 years", x.buys(0, 20), 2);
        due("for 0 years", x.buys(0, 0), -9);
    }

    private static void promise31Ends() {
        CousinsByAgreement x = Told.county("pl999;pt000;b01;");
        due("seven years paid", x.deaths(0, 1, 7, 2, 28, 0), 1);
        due("of all", x.deaths(0, 1, 7, 2, 28, 1), 128);
        due("one less is seven times as likely and once more", x.deaths(0, 1, 7, 2, 24, 0), 1);
        due("of all there are eight", x.deaths(0, 1, 7, 2, 24, 1), 16);
        due("more than all can't be", x.deaths(0, 1, 7, 2, 29, 0), 0);
        due("by 1", x.deaths(0, 1, 7, 2, 29, 1), 1);
        due("none at all in 20 years' odds", x.deaths(1, 0, 7, 20, 99, 0), 1);
        due("a death each year", x.deaths(1, 0, 7, 20, 99, 1), 1280000000L);
        x.gets(1, 95);
        due("up to 99", x.deaths(0, 1, 1, 20, 99, 0), 19);
        due("in 20", x.deaths(0, 1, 1, 20, 99, 1), 20);
        x.gets(1, 99);
        due("has 99 anyhow", x.deaths(0, 1, 7, 20, 99, 1), 1);
        due("no year: what he has", x.deaths(1, 0, 0, 2, 99, 0), 1);
        x.gets(0, 98);
        due("no year: not what he has not", x.deaths(1, 0, 0, 20, 99, 0), 0);
    }

    private static void promise32Ends() {
        CousinsByAgreement x = Told.county("pt000;".repeat(8));
        due("none", x.mean(0), 0);
        due("none by 1", x.mean(1), 1);
        x.gets(7, 1);
        due("one", x.mean(0), 1);
        due("by 8", x.mean(1), 8);
        x.gets(6, 99);
        due("a hundred", x.mean(0), 25);
        due("by 8, less", x.mean(1), 2);
    }

    private static void promise34SixteenNumbers() {
        CousinsByAgreement x = Told.county("pp020;pt000;b01;");
        for (int n = 0; n < 16; n++) {
            x.row(20 - n);
        }
        due("full row", x.count(6), 16);
        due("one of 1 a year: person or lord", x.whatIs(0, 0), 0b11);
        due("whatever his figure", x.whatIs(0, 1), 1023);
        x.turn(0, 1, 9);
        due("not by his figure", x.whatIs(0, 0), 0b1);
        due("a lord of the least figures", x.whatIs(0, 1), 0b111);
        due("the row stays", x.clear(), 16);
        for (int n = 0; n < 16; n++) {
            x.row(n == 15 ? 6 : 20 - n);
        }
        due("but for the last", x.whatIs(0, 0), 0);
        due("no figure but for the last", x.whatIs(0, 1), 0);
        x.clear();
        due("by no number all kinds", x.whatIs(1, 0), 63);
        due("by no number all figures", x.whatIs(1, 1), 1023);
    }

    private static void promises35To37Ends() {
        CousinsByAgreement x = Told.county("pt000;".repeat(7) + "pt099;");
        for (int v : new int[] {0, 0, 0, 0, 0, 0, 0, 99}) {
            x.row(v);
        }
        due("all eight are so", x.judge(), -9);
        due("no number left", x.judge(), -9);
        for (int i = 0; i < 16; i++) {
            due("row " + i, x.row(i == 7 ? 99 : 0), i + 1);
        }
        due("no room for one more", x.row(99), -6);
        due("nor does it come", x.count(6), 16);
        due("the ninth is nobody", x.judge(), 8);
        due("none then", x.clear(), 0);
        for (int i = 0; i < 8; i++) {
            x.row(i == 7 ? 98 : 0);
        }
        due("the last is not so", x.judge(), 7);
        due("room again", x.row(0), 1);
        due("cleared", x.clear(), 1);
    }

    private static final BigInteger WHEEL = BigInteger.ONE.shiftLeft(32);

    /** How many of the draws below 2 are 1, by whole numbers that do not wrap by themselves. */
    private static int ones(int draws, int seed) {
        BigInteger z = BigInteger.valueOf(seed).mod(WHEEL);
        int sum = 0;
        for (int i = 0; i < draws; i++) {
            z = z.multiply(BigInteger.valueOf(1664525)).add(BigInteger.valueOf(1013904223)).mod(WHEEL);
            sum += z.clearBit(31).shiftRight(8).testBit(0) ? 1 : 0;
        }
        return sum;
    }

    private static void promise38Seeds() {
        int[] seeds = {LEAST, LEAST + 1, -1, 0, 1, GREATEST - 1, GREATEST, 1664525, -1013904223, 1 << 30, 1 << 16};
        CousinsByAgreement x = Told.county(EIGHT_TINKERS);
        for (int seed : seeds) {
            for (int n : new int[] {1, 2, 19, 20}) {
                due("twos of " + n + " by " + seed, x.lots(n, seed, 1), ones(28 * n, seed));
                due("money of " + n + " by " + seed, x.lots(n, seed, 0), 792 * n);
            }
        }
        // From 0 the draws are 1, 1, 0: where they sign, he pays ten times, and it is lost.
        x = Told.county("pp099;pt099;");
        due("ten years of one county", x.lots(1, 0, 0), 188);
        due("two draws of 1", x.lots(2, 0, 0), 376);
        due("the third is 0", x.lots(3, 0, 0), 574);
    }

    private static void promises39And40Ends() {
        CousinsByAgreement x = Told.county("pd999;pa500;b01;f01;");
        for (int i = 0; i < 16; i++) {
            x.years(60);
        }
        x.years(39);
        due("image in 999", x.image(), 999);
        Told.tell(x, "pp001;pp002;pp003;pp004;pp005;pp006;f01;b23;");
        x.turn(1, 0, 0);
        x.on();
        due("two again", x.count(0), 2);
        due("kind again", x.person(1, 0), 5);
        due("figure again", x.person(1, 1), 5);
        due("feud again", x.count(4), 1);
        due("signings again", x.count(3), 2);
        due("year again", x.on(), 999);
        due("no year more", x.years(1), -6);
        Told.tell(x, "pp000;pp000;pp000;");
        due("who comes anew has no kin of those before", x.kin(2, 0), 0);
        due("nor signed", x.person(2, 4) + x.person(3, 4) + x.person(4, 4), 0);
        due("room for eight", Told.tell(x, "pp000;pp000;pp000;"), 3);
        due("and no more", Told.tell(x, "pp000;"), -2000);
        due("image of eight", x.image(), 999);
        due("on to eight", x.on(), 999);
        due("eight", x.count(0), 8);
    }

    private static long[] thoughts(CousinsByAgreement x) {
        return new long[] {x.hasThen(0, 60, 0), x.hasThen(0, 1, 1), x.areKin(0, 1, 60), x.allMoney(60), x.ruined(0),
            x.first(0), x.first(1), x.first(2), x.richest(60), x.bestSign(2, 20), x.bestCut(0, 20),
            x.feudCosts(0, 1, 60), x.buys(2, 20), x.deaths(0, 1, 7, 20, 30, 0), x.deaths(0, 1, 7, 20, 30, 1),
            x.two(0, 1, 20), x.whatIs(0, 0), x.whatIs(0, 1), x.lots(20, 5, 0), x.lots(20, 5, 1)};
    }

    /** In thought the year may pass 999, so the last year's thoughts are the first one's. */
    private static void thoughtInTheLastYear() {
        String text = "pl740;pp012;pt003;pa620;b01;s02;b13;f23;";
        CousinsByAgreement late = new CousinsByAgreement();
        for (int i = 0; i < 16; i++) {
            late.years(60);
        }
        late.years(39);
        Told.tell(late, text);
        CousinsByAgreement early = Told.county(text);
        for (int v : new int[] {40, 37, 34}) {
            late.row(v);
            early.row(v);
        }
        long[] due = thoughts(early);
        long[] got = thoughts(late);
        for (int i = 0; i < due.length; i++) {
            due("thought " + i + " in the last year", got[i], due[i]);
        }
        due("year still", late.count(1), 999);
        due("nothing was refused", late.count(16), 0);
    }
}
