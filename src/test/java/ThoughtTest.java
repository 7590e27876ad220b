/** Promises 11 to 25: what is thought of kin and of years to come. */
public final class ThoughtTest {
    private static final Check CHECK = new Check("ThoughtTest");
    private static final String LORD_OF_TWELVE = "pp020;pl712;b01;";
    private static final String RING_WITH_TAIL = "pt000;pt000;pt000;pt000;pt000;pt000;pt000;"
            + "b01;b12;b20;b23;b34;b56;";

    private ThoughtTest() {
    }

    private static void due(String call, long got, long want) {
        CHECK.due(call, got, want);
    }

    public static void main(String[] args) {
        promise11HasThen();
        promise12AreKin();
        promise13AllMoney();
        promise14Ruined();
        promise15First();
        promise15Steady();
        promise16Richest();
        promise17Kin();
        promise18Removed();
        promise19Farthest();
        promise20Groups();
        promise21Clan();
        promise22BestSign();
        promise23BestCut();
        promise24FeudCosts();
        promise25Peace();
        CHECK.end();
    }

    private static void promise11HasThen() {
        CousinsByAgreement x = Told.county(LORD_OF_TWELVE);
        int[] persons = {20, 22, 24, 26, 28, 30, 32, 31, 31};
        int[] lords = {12, 10, 8, 6, 4, 2, 0, 1, 1};
        int[] kin = {1, 1, 1, 1, 1, 1, 1, 0, 0};
        for (int n = 0; n < persons.length; n++) {
            due("person behind " + n, x.hasThen(0, n, 0), persons[n]);
            due("lord behind " + n, x.hasThen(1, n, 0), lords[n]);
            due("kin behind " + n, x.hasThen(1, n, 1), kin[n]);
        }
        due("behind 60", x.hasThen(1, 60, 0), 1);
        due("nothing has changed", x.person(1, 2), 12);
        due("no year has gone by", x.count(1), 0);
        due("nobody first", x.hasThen(2, -1, 2), -1);
        due("below before what", x.hasThen(0, -1, 2), -4);
        due("above before what", x.hasThen(0, 61, 2), -6);
        due("what", x.hasThen(0, 60, 2), -2);
        due("what below", x.hasThen(0, 0, -1), -2);
    }

    private static void promise12AreKin() {
        CousinsByAgreement x = Told.county(LORD_OF_TWELVE);
        due("kin now", x.areKin(0, 1, 0), 1);
        due("kin behind 6", x.areKin(1, 0, 6), 1);
        due("not behind 7", x.areKin(0, 1, 7), 0);
        due("not behind 60", x.areKin(0, 1, 60), 0);
        due("one twice", x.areKin(1, 1, -1), -1);
        due("nobody", x.areKin(0, 2, 0), -1);
        due("below", x.areKin(0, 1, -1), -4);
        due("above", x.areKin(0, 1, 61), -6);
        due("kin still", x.areKin(0, 1, 0), 1);
    }

    private static void promise13AllMoney() {
        CousinsByAgreement x = Told.county("pp099;pl999;b01;");
        due("now", x.allMoney(0), 198);
        due("behind a year", x.allMoney(1), 194);
        due("now still", x.allMoney(0), 198);
        due("below", x.allMoney(-1), -4);
        due("above", x.allMoney(61), -6);
        due("of nobody", new CousinsByAgreement().allMoney(60), 0);
    }

    private static void promise14Ruined() {
        CousinsByAgreement x = Told.county("pp060;pt000;b01;");
        due("at 60", x.ruined(0), 60);
        due("now", x.ruined(1), 0);
        x.gets(0, 61);
        due("later than 60", x.ruined(0), -9);
        due("nobody", x.ruined(2), -1);
        due("nobody below", x.ruined(-1), -1);
        due("year stays", x.count(1), 0);
        x = Told.county(LORD_OF_TWELVE);
        due("first, though not for good", x.ruined(1), 6);
        due("never", x.ruined(0), -9);
    }

    private static void promise15First() {
        CousinsByAgreement x = Told.county("pp006;pp005;pp005;pt000;b03;b13;b23;");
        due("who", x.first(0), 1);
        due("when", x.first(1), 5);
        x.gets(0, 5);
        due("of several the least", x.first(0), 0);
        x.gets(0, 0);
        due("with money now", x.first(0), 1);
        due("what above", x.first(3), -2);
        due("what below", x.first(-1), -2);
        x = Told.county("pp060;pt000;b01;");
        due("at 60", x.first(1), 60);
        x.gets(0, 61);
        due("none", x.first(0), -9);
        due("none, when", x.first(1), -9);
    }

    private static void promise15Steady() {
        due("nobody", new CousinsByAgreement().first(2), 0);
        due("the lord is dropped", Told.county(LORD_OF_TWELVE).first(2), 7);
        CousinsByAgreement x = Told.county(LORD_OF_TWELVE);
        x.hasThen(0, 60, 0);
        due("from now on, whatever has been thought", x.first(2), 7);
        x.years(4);
        due("and behind four years", x.first(2), 3);
        due("two who pay as much", Told.county("pp010;pp010;b01;").first(2), 0);
        due("a signing is a change", Told.county("pp000;pt000;b01;").first(2), 1);
        due("at 60", Told.county("pp059;pt000;b01;").first(2), 60);
        due("later than 60", Told.county("pp060;pt000;b01;").first(2), -9);
    }

    private static void promise16Richest() {
        CousinsByAgreement x = Told.county("pp010;pl912;pt012;b01;");
        due("of several the least", x.richest(0), 1);
        due("behind a year", x.richest(1), 0);
        due("below", x.richest(-1), -4);
        due("above", x.richest(61), -6);
        due("nobody", new CousinsByAgreement().richest(0), -9);
        due("one without money", Told.county("pp000;").richest(60), 0);
    }

    private static void promise17Kin() {
        CousinsByAgreement x = Told.county(RING_WITH_TAIL);
        due("kin", x.kin(2, 0), 0b1011);
        due("all", x.kin(2, 1), 0b11111);
        due("all of the last in line", x.kin(4, 1), 0b11111);
        due("all of two", x.kin(6, 1), 0b1100000);
        x.feuds(2, 3);
        due("kin less a feud", x.kin(2, 0), 0b11);
        due("all less a feud", x.kin(3, 1), 0b11000);
        due("nobody", x.kin(7, 2), -1);
        due("what", x.kin(0, 2), -2);
        due("what below", x.kin(0, -1), -2);
        due("he too", Told.county("pp000;").kin(0, 1), 1);
        due("none", Told.county("pp000;").kin(0, 0), 0);
    }

    private static void promise18Removed() {
        CousinsByAgreement x = Told.county(RING_WITH_TAIL);
        due("one step", x.removed(0, 2), 1);
        due("three steps", x.removed(4, 0), 3);
        due("not at all", x.removed(0, 5), -9);
        due("one twice", x.removed(5, 5), -1);
        due("nobody", x.removed(0, 7), -1);
        x = Told.county("pt000;pt000;pt000;pt000;pt000;pt000;pt000;pt000;b01;b12;b23;b34;b45;b56;b67;");
        due("seven steps", x.removed(7, 0), 7);
    }

    private static void promise19Farthest() {
        CousinsByAgreement x = Told.county(RING_WITH_TAIL);
        due("of several the first", x.farthest(0), 4);
        due("how much", x.farthest(1), 3);
        x.feuds(0, 1);
        x.feuds(0, 2);
        due("without 0", x.farthest(0), 14);
        due("what", x.farthest(2), -2);
        due("what below", x.farthest(-1), -2);
        due("two alone", Told.county("pp000;pp000;pp000;b12;").farthest(0), 12);
        due("none", Told.county("pp000;pp000;").farthest(0), -9);
        due("none, how much", Told.county("pp000;pp000;").farthest(1), -9);
    }

    private static void promise20Groups() {
        CousinsByAgreement x = Told.county(RING_WITH_TAIL);
        due("groups", x.groups(0), 2);
        due("the most in one", x.groups(1), 5);
        due("threes", x.groups(2), 1);
        x.feuds(3, 4);
        due("one alone is one", x.groups(0), 3);
        x.feuds(0, 1);
        due("no three", x.groups(2), 0);
        due("what", x.groups(3), -2);
        due("what below", x.groups(-1), -2);
        due("threes of four", Told.county("pt000;pt000;pt000;pt000;b01;b02;b03;b12;b13;b23;").groups(2), 4);
    }

    private static void promise21Clan() {
        CousinsByAgreement x = Told.county(RING_WITH_TAIL);
        due("clan", x.clan(0), 0b111);
        due("how many", x.clan(1), 3);
        x.feuds(0, 1);
        due("of several the least bits", x.clan(0), 0b101);
        due("what", x.clan(2), -2);
        due("what below", x.clan(-1), -2);
        due("one alone", Told.county("pp000;pp000;").clan(0), 1);
        due("nobody", new CousinsByAgreement().clan(0), 0);
        x = Told.county("pt000;pt000;pt000;pt000;pt000;b01;b12;b34;b24;b23;");
        due("the three that is not the first", x.clan(0), 0b11100);
    }

    private static void promise22BestSign() {
        CousinsByAgreement x = Told.county("pp005;pl650;pl950;pl950;s10;s20;s30;");
        due("the one who pays most, the least of them", x.bestSign(0, 3), 2);
        due("no year, no more money", x.bestSign(0, 0), -9);
        due("nothing has changed", x.person(0, 4), 0);
        x.feuds(0, 2);
        due("not at feud", x.bestSign(0, 3), 3);
        x.signs(0, 3);
        due("not signed already", x.bestSign(0, 3), 1);
        x.signs(1, 0);
        due("who has not signed to him", x.bestSign(0, 3), -9);
        due("a tinker does not help", Told.county("pp005;pt050;s10;").bestSign(0, 20), -9);
        due("nobody first", x.bestSign(4, 21), -1);
        due("below", x.bestSign(0, -1), -4);
        due("above", x.bestSign(0, 21), -6);
    }

    private static void promise23BestCut() {
        CousinsByAgreement x = Told.county("pd950;pl950;pt000;pt000;b01;b02;b03;");
        due("the most, of several the least", x.bestCut(0, 2), 2);
        x.feuds(0, 2);
        due("not one at feud", x.bestCut(0, 2), 3);
        due("no year, no more money", x.bestCut(0, 0), -9);
        due("nothing has changed", x.person(0, 4), 3);
        due("one who pays is kept", Told.county("pp005;pl950;b01;").bestCut(0, 5), -9);
        due("nobody first", x.bestCut(4, 21), -1);
        due("below", x.bestCut(0, -1), -4);
        due("above", x.bestCut(0, 21), -6);
    }

    private static void promise24FeudCosts() {
        CousinsByAgreement x = Told.county("pp099;pl999;b01;");
        due("below 0", x.feudCosts(0, 1, 1), -4);
        due("no year", x.feudCosts(0, 1, 0), 0);
        x.feuds(0, 1);
        due("the same when there is one", x.feudCosts(1, 0, 1), -4);
        due("the feud stays", x.tie(0, 1, 1), 1);
        due("above 0", Told.county("pl999;pp099;pt000;b01;b12;").feudCosts(1, 2, 2), 1);
        due("one twice", x.feudCosts(1, 1, -1), 1000000001);
        due("nobody", x.feudCosts(0, 2, 61), 1000000001);
        due("below", x.feudCosts(0, 1, -1), 1000000004);
        due("above", x.feudCosts(0, 1, 61), 1000000006);
        due("counted", x.count(11), 2);
        due("counted too", x.count(14) + x.count(16), 2);
    }

    private static void promise25Peace() {
        CousinsByAgreement x = Told.county("pp000;pp000;pp000;pp000;f01;b12;b23;s01;");
        due("no feud of two who signed", x.peace(), -9);
        x.feuds(2, 3);
        due("a feud of two who signed", x.peace(), 23);
        x.feuds(2, 1);
        due("of several the first", x.peace(), 12);
        due("the feud stays", x.tie(1, 2, 1), 1);
        due("nobody", new CousinsByAgreement().peace(), -9);
    }
}
