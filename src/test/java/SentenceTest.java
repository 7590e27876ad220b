/**
 * The document once more, from its first line: sentences that had no example of their own worked by hand, or only one
 * in passing.
 */
public final class SentenceTest {
    private static final Check CHECK = new Check("SentenceTest");

    private SentenceTest() {
    }

    private static void due(String call, long got, long want) {
        CHECK.due(call, got, want);
    }

    public static void main(String[] args) {
        atMost512Calls();
        notAtFirst();
        numbersAsTheyCome();
        statementsOneByOne();
        peopleByNumbers();
        paidIsPaidOn();
        asShePays();
        unableToOneAbleToTheNext();
        lostIsLostForAll();
        fewestSteps();
        thoughtAsDone();
        signAndCutAreForAll();
        feudOfOthersStays();
        changedPlaces();
        eachOfHisKin();
        roomsByPeople();
        couplesByPeople();
        deathsByThemselves();
        rowFromNow();
        twosByNumbers();
        eachLotAnew();
        imageWithoutIt();
        readmeExample();
        CHECK.end();
    }

    /** What the county has then, one by one. */
    private static void has(String name, CousinsByAgreement x, int... money) {
        for (int one = 0; one < money.length; one++) {
            due(name + ": money of " + one, x.person(one, 2), money[one]);
        }
    }

    /** "An object is used for at most 512 calls": the last of them is answered as the first. */
    private static void atMost512Calls() {
        CousinsByAgreement x = Told.county("pp099;pt000;b01;");
        // 17 calls have told it; with 494 more there is one left.
        for (int i = 0; i < 247; i++) {
            due("gets in call " + i, x.gets(1, i % 100), i == 0 ? 0 : (i - 1) % 100);
            due("has in call " + i, x.hasThen(1, 1, 0), Math.min(99, i % 100 + 1));
        }
        due("the last call", x.years(1), 98 + 47);
    }

    /** "Each has SIGNED to another one or not (not at first); two are at FEUD or not (not at first)." */
    private static void notAtFirst() {
        CousinsByAgreement x = Told.county("pp020;pl712;pt005;pw340;pd609;pa230;pp001;pp002;");
        for (int one = 0; one < 8; one++) {
            for (int other = 0; other < 8; other++) {
                for (int what = 0; one != other && what < 3; what++) {
                    due("tie at first " + one + other + what, x.tie(one, other, what), 0);
                }
            }
        }
    }

    /** "PEOPLE 0 .. as they come", in one county told behind another, too. */
    private static void numbersAsTheyCome() {
        CousinsByAgreement x = Told.county("pl712;pt005;");
        due("one more county", Told.tell(x, "pw340;s20;pd609;b23;"), 4);
        int[] kinds = {1, 2, 3, 4};
        int[] figures = {7, 0, 3, 6};
        int[] signed = {0, 0, 2, 1};
        for (int one = 0; one < 4; one++) {
            due("kind of " + one, x.person(one, 0), kinds[one]);
            due("figure of " + one, x.person(one, 1), figures[one]);
            due("signed by " + one, x.person(one, 4), signed[one]);
        }
        has("as they came", x, 12, 5, 40, 9);
    }

    /** Statements come one behind the other: years go by where they are told. */
    private static void statementsOneByOne() {
        CousinsByAgreement x = Told.county("pp005;pt000;b01;y02;m000;y03;");
        has("money told between years", x, 0, 2);
        due("he could not pay then", x.tie(0, 1, 0), 0);
        due("five years", x.count(1), 5);
        x = Told.county("pp005;pt000;y02;b01;y01;");
        has("signed between years", x, 4, 1);
        due("three years", x.count(1), 3);
        x = Told.county("pp005;pt000;b01;y01;f01;y01;f01;y01;");
        has("a feud for the second year", x, 3, 2);
        x = Told.county("pp005;pt000;b01;y01;s01;y01;s01;y01;");
        has("not signed for the second year", x, 3, 2);
        x = Told.county("pp005;y01;pt000;b01;y01;");
        has("one who came later", x, 4, 1);
        x = Told.county("pp000;pp000;f01;b01;");
        due("both sign, whatever their feud", x.tie(0, 1, 0) + x.tie(1, 0, 0), 2);
        due("no kin at feud", x.tie(0, 1, 2), 0);
    }

    /** "PEOPLE by numbers, each to his KIN by numbers": who pays first is paid before he must pay. */
    private static void peopleByNumbers() {
        CousinsByAgreement x = Told.county("pp001;pp000;pt000;b01;b12;y01;");
        has("the second has 1 as he pays, for the first of his kin", x, 1, 0, 0);
        due("to the first still", x.tie(1, 0, 0), 1);
        due("to the last no more", x.tie(1, 2, 0), 0);
        due("the last to him", x.tie(2, 1, 0), 1);
        x = Told.county("pt000;pp001;pt000;b12;b01;y01;");
        has("by numbers, not as they signed", x, 1, 0, 0);
        due("not to the last", x.tie(1, 2, 0), 0);
    }

    private static void paidIsPaidOn() {
        CousinsByAgreement x = Told.county("pl904;pp000;pt000;b01;b12;y01;");
        has("down the numbers in one year", x, 1, 2, 1);
        due("all kin still", x.count(5), 2);
        x = Told.county("pt000;pp000;pl904;b01;b12;y01;");
        has("not up the numbers", x, 0, 0, 4);
        due("he has signed to nobody", x.person(1, 4), 0);
        due("they to him", x.count(3), 2);
    }

    /** "If that one has less MONEY than she (as she pays)." */
    private static void asShePays() {
        CousinsByAgreement x = Told.county("pw006;pt005;pt005;b01;b02;y01;");
        has("the second is no poorer by then", x, 5, 6, 5);
        due("nothing is paid: kin still", x.person(0, 3), 2);
        x = Told.county("pl904;pw003;pt005;b01;b12;y01;");
        has("richer by then", x, 1, 5, 6);
        x = Told.county("pa006;pt005;pt005;b01;b02;y01;");
        has("an aunt pays 2, then 1", x, 3, 7, 6);
        x = Told.county("pw006;pt005;");
        due("were they kin", x.tie(0, 1, 3), 1);
        x.gets(0, 5);
        due("were they kin now", x.tie(0, 1, 3), 0);
    }

    /** Who can't pay one of his kin still pays the next what that one is due. */
    private static void unableToOneAbleToTheNext() {
        CousinsByAgreement x = Told.county("pa001;pt000;pt005;b01;b02;y01;");
        has("2 to the poor can't be paid, 1 to the rich can", x, 0, 0, 6);
        due("to the poor no more", x.tie(0, 1, 0), 0);
        due("to the rich still", x.tie(0, 2, 2), 1);
    }

    /** "What is above is lost": to nobody, and the one who paid has as much less all the same. */
    private static void lostIsLostForAll() {
        CousinsByAgreement x = Told.county("pd999;pt098;pt000;b01;b02;");
        due("7 are lost", x.years(1), 190);
        has("8 each", x, 83, 99, 8);
        due("8 more are lost", x.years(1), 182);
        has("8 each again", x, 67, 99, 16);
    }

    /** "REMOVED: the fewest steps": the short way round, though the long one has lesser numbers. */
    private static void fewestSteps() {
        CousinsByAgreement x = Told.county("pt000;pt000;pt000;pt000;pt000;b01;b12;b23;b04;b43;");
        due("by the other way", x.removed(0, 3), 2);
        due("either way", x.removed(3, 0), 2);
        x.feuds(4, 3);
        due("the long way", x.removed(0, 3), 3);
        x.signs(2, 3);
        due("signed by one alone is no step", x.removed(0, 3), -9);
        due("nor among those he is removed to", x.kin(3, 1), 0b1000);
    }

    /** What is thought of n years is what is when they have gone by. */
    private static void thoughtAsDone() {
        String text = "pp020;pl712;pt005;pw340;pd609;pa230;b01;b12;b23;b34;b45;b50;";
        for (int n = 1; n <= 60; n += 7) {
            CousinsByAgreement x = Told.county(text);
            CousinsByAgreement y = Told.county(text);
            due("all money behind " + n, x.allMoney(n), y.years(n));
            due("richest behind " + n, x.richest(n), y.richest(0));
            for (int one = 0; one < 6; one++) {
                due("money of " + one + " behind " + n, x.hasThen(one, n, 0), y.person(one, 2));
                due("kin of " + one + " behind " + n, x.hasThen(one, n, 1), y.person(one, 3));
                int next = (one + 1) % 6;
                due("kin " + one + next + " behind " + n, x.areKin(one, next, n), y.tie(one, next, 2));
            }
        }
    }

    /** "So that his MONEY behind n YEARS is most": his own, whatever the others have, and by all that follows. */
    private static void signAndCutAreForAll() {
        // Kin to the lord he is paid 4 and pays 1; the duke pays 8, but can only once.
        CousinsByAgreement x = Told.county("pp010;pl950;pd908;s10;s20;");
        due("for one year the duke", x.bestSign(0, 1), 2);
        due("for three years the lord", x.bestSign(0, 3), 1);
        // Cut from the tinker he pays 1 less a year; the lord pays more than he is paid.
        x = Told.county("pp010;pl950;pt000;b01;b02;");
        due("the tinker is cut", x.bestCut(0, 5), 2);
        due("the lord cuts him", x.bestCut(1, 5), 0);
        due("the tinker cuts nobody", x.bestCut(2, 5), -9);
    }

    /** A feud's costs are of its two: other feuds stay as they are. */
    private static void feudOfOthersStays() {
        CousinsByAgreement x = Told.county("pp099;pt099;pp099;pt099;b01;b23;f23;");
        due("the first two lose 1 a year without it", x.feudCosts(0, 1, 5), -5);
        due("and the others", x.feudCosts(2, 3, 5), -5);
        due("nothing to those who have not signed", x.feudCosts(0, 2, 5), 0);
        due("feuds still", x.count(4), 1);
    }

    /** "All that the one has to others and they to him the other has then, .. what is between the two is turned." */
    private static void changedPlaces() {
        due("a feud between the two is one still", Told.county("pt005;pl950;b01;f01;").buys(0, 5), -9);
        due("one who signed alone is alone still", Told.county("pt005;pl950;s01;").buys(0, 5), -9);
        due("and the other way", Told.county("pt005;pl950;s10;").buys(0, 5), -9);
        due("his signings go with theirs to him", Told.county("pt005;pt005;pl950;s20;s12;").buys(0, 5), -9);
        due("theirs to him go with his", Told.county("pt005;pt005;pl950;s02;s21;").buys(0, 5), -9);
        CousinsByAgreement x = Told.county("pt005;pt005;pl950;b02;b12;f02;");
        due("a feud goes to the other", x.buys(0, 5), 1);
        due("who has no feud keeps his place", x.buys(1, 5), -9);
        due("the lord is paid by neither", x.buys(2, 5), 0);
        x = Told.county("pp005;pd950;pt050;b12;");
        due("money, kind and figure are not changed", x.buys(0, 3), 2);
    }

    /** "Parts as equal as can be, the first of them by numbers 1 more": they make up all that he has. */
    private static void eachOfHisKin() {
        CousinsByAgreement x = Told.county("pp000;pp000;pp000;pp099;pp000;pp000;b30;b31;b34;b35;s32;");
        int[] parts = {25, 25, -9, -1, 25, 24};
        for (int one = 0; one < parts.length; one++) {
            due("part of " + one, x.will(3, one), parts[one]);
        }
        x.feuds(3, 1);
        int[] less = {33, -9, -9, -1, 33, 33};
        for (int one = 0; one < less.length; one++) {
            due("part of " + one + " with a feud", x.will(3, one), less[one]);
        }
        x.gets(0, 99);
        due("what the heir has does not count", x.will(3, 0), 33);
    }

    /** "By the first such (by PEOPLE, the least room)": the least for the first, then for the second .. */
    private static void roomsByPeople() {
        // The first two have no feud, but in one room they would need a third one.
        CousinsByAgreement x = Told.county("pp000;pp000;pp000;pp000;f02;f13;f23;");
        due("two do", x.rooms(-1), 2);
        int[] rooms = {0, 1, 1, 0};
        for (int one = 0; one < rooms.length; one++) {
            due("room of " + one, x.rooms(one), rooms[one]);
        }
        x.signs(0, 2);
        x.signs(2, 0);
        due("signings do not count", x.rooms(-1), 2);
        due("feud is feud", x.rooms(2), 1);
    }

    /** "The least other one, none last": the first takes the least by whom there still are the most couples. */
    private static void couplesByPeople() {
        // No more than 5 apart are the neighbours in the line 4 2 0 1 3 5.
        CousinsByAgreement x = Told.county("pp010;pp015;pp005;pp020;pp000;pp025;");
        due("three", x.couples(5, -1), 3);
        int[] partners = {1, 0, 4, 5, 2, 3};
        for (int one = 0; one < partners.length; one++) {
            due("partner of " + one, x.couples(5, one), partners[one]);
        }
        x.feuds(2, 4);
        due("a line of five", x.couples(5, -1), 2);
        due("the first takes the least still", x.couples(5, 0), 1);
        due("nobody for him", x.couples(5, 4), -9);
        due("signings do not count", x.signs(0, 1) + x.couples(5, -1), 3);
    }

    /** "In each of n YEARS, by itself": one dead in one year pays in the next as ever. */
    private static void deathsByThemselves() {
        CousinsByAgreement x = Told.county("pp003;pt000;b01;");
        // He can pay three times: of four years at most one may be without.
        due("three of four years", x.deaths(0, 1, 4, 2, 3, 0), 5);
        due("by 16", x.deaths(0, 1, 4, 2, 3, 1), 16);
        // In three years of four he has nothing left for the fourth, and has signed till then.
        due("never more", x.deaths(0, 1, 4, 2, 4, 0), 0);
        due("0 or more is sure", x.deaths(0, 1, 4, 3, 0, 0), 1);
        x = Told.county("pt000;pp000;pp005;b12;");
        due("one who is nobody's kin dies", x.deaths(0, 1, 2, 2, 2, 0), 0);
        due("and the others go on", x.deaths(0, 2, 2, 2, 5, 1), 1);
    }

    /** "A ROW tells MONEY of one behind 0, 1, .. YEARS": from now, wherever now is. */
    private static void rowFromNow() {
        CousinsByAgreement x = Told.county("pp020;pt000;b01;y05;");
        x.row(15);
        x.row(11);
        x.row(7);
        due("4 a year: a lord of his figure does not, a duke neither", x.whatIs(0, 0), 0);
        x.turn(0, 0, 4);
        due("2 by the lord's, 4 by the duke's", x.whatIs(0, 0), 0b010000);
        due("a person's figure changes nothing", x.whatIs(0, 1), 0);
        x.turn(0, 4, 9);
        due("figures of a duke", x.whatIs(0, 1), 0b111000);
        due("by no other kind with figure 9 but the lord", x.whatIs(0, 0), 0b000010);
        due("judged by all", x.judge(), 1);
    }

    /** "For each two, the lesser first, by numbers": from 0 the draws below 2 are 1, 1, 0, 1, 1, 0. */
    private static void twosByNumbers() {
        int[] twos = {1, 2, 3, 12, 13, 23};
        int[] drawn = {1, 1, 0, 1, 1, 0};
        for (int i = 0; i < twos.length; i++) {
            CousinsByAgreement x = Told.county("pt000;pt000;pt000;pt000;");
            due("four of six", x.lots(1, 0, 1), 4);
            x.feuds(twos[i] / 10, twos[i] % 10);
            due("less the two " + twos[i] + " if they drew 1", x.lots(1, 0, 1), 4 - drawn[i]);
        }
    }

    /** Each county by lot is as now but for its signings: what the one before has paid is not gone. */
    private static void eachLotAnew() {
        CousinsByAgreement x = Told.county("pp010;pt099;y07;");
        due("ten are lost", x.lots(1, 0, 0), 99);
        due("ten are lost again", x.lots(2, 0, 0), 198);
        due("none by the draw of 0", x.lots(3, 0, 0), 307);
        due("kin still, twice", x.lots(3, 0, 1), 2);
        due("the same again", x.lots(3, 0, 1), 2);
        due("by another seed", x.lots(1, 1196435762, 0), 109);
        has("nothing has gone by", x, 10, 99);
        due("year", x.count(1), 7);
    }

    /** "All that there is, but it": on from it there still is the image, and the same one. */
    private static void imageWithoutIt() {
        CousinsByAgreement x = Told.county("pp020;pl712;b01;y01;");
        due("taken", x.image(), 1);
        for (int i = 0; i < 3; i++) {
            x.years(10);
            Told.tell(x, "pt000;f01;");
            due("on " + i, x.on(), 1);
            due("two", x.count(0), 2);
            due("no feud", x.count(4), 0);
            has("as then", x, 22, 10);
        }
        due("goes on as then", x.years(1), 32);
        has("a year later", x, 24, 8);
    }

    /** README.md's example. */
    private static void readmeExample() {
        CousinsByAgreement county = new CousinsByAgreement();
        for (char c : "pp020;pl712;b01;".toCharArray()) {
            county.letter(c);
        }
        due("statements", county.county(), 3);
        due("dues", county.tie(1, 0, 3), 3);
        due("all money", county.years(2), 32);
        due("ruined", county.ruined(1), 4);
        due("refused", county.gets(2, 5), -1);
        due("counted", county.count(11), 1);
    }
}
