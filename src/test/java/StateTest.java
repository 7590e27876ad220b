/** Promises 1 to 10 and 35 to 41: what there is and what changes it. */
public final class StateTest {
    private static final Check CHECK = new Check("StateTest");
    private static final int LEAST = Integer.MIN_VALUE;
    private static final int GREATEST = Integer.MAX_VALUE;

    private StateTest() {
    }

    private static void due(String call, long got, long want) {
        CHECK.due(call, got, want);
    }

    public static void main(String[] args) {
        promise1NewObject();
        promise2Letter();
        promise3Form();
        promise3Sense();
        promise3Comes();
        promise4Person();
        promise5Tie();
        promise6Signs();
        promise7Feuds();
        promise8Gets();
        promise9Turn();
        promise10Years();
        promise10YearLimit();
        promises35To37Row();
        promises39And40Image();
        promise41Count();
        CHECK.end();
    }

    private static void promise1NewObject() {
        CousinsByAgreement x = new CousinsByAgreement();
        for (int what = 0; what <= 7; what++) {
            due("new count " + what, x.count(what), 0);
        }
        for (int what = 11; what <= 16; what++) {
            due("new count " + what, x.count(what), 0);
        }
        due("nobody", x.person(0, 0), -1);
        due("no image", x.on(), -3);
    }

    private static void promise2Letter() {
        CousinsByAgreement x = new CousinsByAgreement();
        due("least letter", x.letter(0), 1);
        due("greatest letter", x.letter(255), 2);
        due("letter below", x.letter(-1), -4);
        due("letter far below", x.letter(LEAST), -4);
        due("letter above", x.letter(256), -6);
        due("letter far above", x.letter(GREATEST), -6);
        for (int i = 3; i <= 96; i++) {
            due("letter " + i, x.letter(';'), i);
        }
        due("letter 97", x.letter(';'), -6);
        due("letter below, no room", x.letter(-1), -4);
        due("letters", x.count(7), 96);
        due("refused below", x.count(14), 3);
        due("refused room", x.count(16), 3);
    }

    private static void fault(String text, int want) {
        CousinsByAgreement x = Told.county("pp020;pl712;");
        due("county " + text, Told.tell(x, text), want);
        due("letters behind " + text, x.count(7), 0);
        due("people behind " + text, x.count(0), 2);
        due("money behind " + text, x.count(2), 32);
        due("year behind " + text, x.count(1), 0);
        due("signings behind " + text, x.count(3), 0);
        for (int what = 11; what <= 16; what++) {
            due("nothing counted behind " + text, x.count(what), 0);
        }
    }

    private static void promise3Form() {
        fault("", -1000);
        fault("x", -1000);
        fault(";", -1000);
        fault("P", -1000);
        fault("p", -1001);
        fault("pp", -1002);
        fault("pp0", -1003);
        fault("pp02", -1004);
        fault("pp020", -1005);
        fault("pp0200;", -1005);
        fault("px020;", -1001);
        fault("p0020;", -1001);
        fault("ps020;", -1001);
        fault("ppp20;", -1002);
        fault("pp0;", -1003);
        fault("pp020;;", -1006);
        fault("pp020;s", -1007);
        fault("s0", -1002);
        fault("s0;", -1002);
        fault("s01", -1003);
        fault("b011;", -1003);
        fault("fa1;", -1001);
        fault("m01;", -1003);
        fault("m0123;", -1004);
        fault("y1;", -1002);
        fault("y001;", -1003);
        fault("s00;x", -1004);
        fault("y99;m0", -1006);
        fault("m" + (char) 178 + "11;", -1001);
        fault("m011;".repeat(19) + "m", -1096);
    }

    private static void promise3Sense() {
        fault("s02;", -2000);
        fault("s20;", -2000);
        fault("s00;", -2000);
        fault("b02;", -2000);
        fault("b11;", -2000);
        fault("f09;", -2000);
        fault("f11;", -2000);
        fault("m200;", -2000);
        fault("m950;", -2000);
        fault("y00;", -2000);
        fault("y61;", -2000);
        fault("m055;s01;b01;y01;s09;m077;", -2017);
        fault("pp011;s02;s03;pp011;", -2010);
        fault("pp000;pp000;pp000;pp000;pp000;pp000;pp000;", -2036);
        CousinsByAgreement x = Told.county("pp020;");
        for (int i = 0; i < 16; i++) {
            x.years(60);
        }
        x.years(30);
        due("year 1000 within", Told.tell(x, "y05;y05;"), -2004);
        due("year stays", x.count(1), 990);
        due("year 999", Told.tell(x, "y05;y04;"), 2);
        due("year is 999", x.count(1), 999);
        due("year 1000", Told.tell(x, "y01;"), -2000);
    }

    private static void promise3Comes() {
        CousinsByAgreement x = new CousinsByAgreement();
        due("eight and more", Told.tell(x, "pp001;pl102;pt203;pw304;pd405;pa506;pp607;pp708;"
                + "s01;b23;f45;f45;f46;s10;s10;m011;y01;f67;f76;"), 19);
        due("people", x.count(0), 8);
        for (int one = 0; one < 6; one++) {
            due("kind " + one, x.person(one, 0), one);
            due("figure " + one, x.person(one, 1), one);
        }
        due("signed", x.tie(0, 1, 0), 1);
        due("no more signed", x.tie(1, 0, 0), 0);
        due("both", x.tie(2, 3, 2), 1);
        due("feud twice is none", x.tie(4, 5, 1), 0);
        due("feud", x.tie(6, 4, 1), 1);
        due("feud either way is the same", x.tie(6, 7, 1), 0);
        due("money told", x.person(0, 2), 11);
        due("year told", x.count(1), 1);
        due("the widow paid the tinker", x.person(2, 2), 4);
        due("no room for one more", Told.tell(x, "pp000;"), -2000);
        due("told later to those there", Told.tell(x, "m799;"), 1);
        due("money told later", x.person(7, 2), 99);
        due("both twice are both still", Told.county("pp000;pp000;b01;b01;").tie(1, 0, 2), 1);
        due("both where one has signed", Told.county("pp000;pp000;s10;b01;").tie(1, 0, 2), 1);
        due("96 letters", Told.tell(new CousinsByAgreement(), "pp001;pl102;pt203;pw304;pd405;pa506;pp607;pp708;"
                + "f01;f01;f02;f02;f03;f03;f04;f04;f05;f05;f06;f06;"), 20);
    }

    private static void promise4Person() {
        CousinsByAgreement x = Told.county("pd620;pp000;pt000;pt000;b01;b02;s03;f02;");
        due("kind", x.person(0, 0), 4);
        due("figure", x.person(0, 1), 6);
        due("money", x.person(0, 2), 20);
        due("kin", x.person(0, 3), 1);
        due("signed to", x.person(0, 4), 3);
        due("signed to none", x.person(3, 4), 0);
        due("what above", x.person(0, 5), -2);
        due("what below", x.person(0, -1), -2);
        due("nobody above", x.person(4, 0), -1);
        due("nobody below", x.person(-1, 0), -1);
        due("nobody far above", x.person(GREATEST, 9), -1);
        due("nobody far below", x.person(LEAST, 9), -1);
        due("nobodies", x.count(11), 4);
        due("others", x.count(12), 2);
    }

    private static void promise5Tie() {
        CousinsByAgreement x = Told.county("pp810;pl810;pt810;pw810;pd810;pa810;pp005;s01;b12;b23;f23;");
        int[] poorer = {1, 3, 0, 1, 6, 2};
        int[] asRich = {1, 3, 0, 0, 6, 1};
        for (int one = 0; one < 6; one++) {
            due("pays a poorer one: kind " + one, x.tie(one, 6, 3), poorer[one]);
            due("pays one as rich: kind " + one, x.tie(one, one == 0 ? 1 : 0, 3), asRich[one]);
        }
        due("one signed", x.tie(0, 1, 0), 1);
        due("the other not", x.tie(1, 0, 0), 0);
        due("one alone is no kin", x.tie(0, 1, 2), 0);
        due("kin", x.tie(2, 1, 2), 1);
        due("no feud", x.tie(1, 2, 1), 0);
        due("feud", x.tie(3, 2, 1), 1);
        due("kin not at feud", x.tie(2, 3, 2), 0);
        due("one twice", x.tie(2, 2, 0), -1);
        due("nobody", x.tie(0, 7, 4), -1);
        due("nobody below", x.tie(-1, 0, 0), -1);
        due("what above", x.tie(0, 1, 4), -2);
        due("what below", x.tie(0, 1, -1), -2);
        x.turn(0, 1, 2);
        due("figure cut to 0", x.tie(0, 1, 3), 1);
        x.turn(0, 1, 9);
        due("figure 9", x.tie(0, 1, 3), 4);
    }

    private static void promise6Signs() {
        CousinsByAgreement x = Told.county("pp020;pp020;");
        due("signs", x.signs(0, 1), 1);
        due("the other signs", x.signs(1, 0), 1);
        due("kin now", x.tie(0, 1, 2), 1);
        due("signs no more", x.signs(0, 1), 0);
        due("the other still", x.tie(1, 0, 0), 1);
        due("to himself", x.signs(1, 1), -1);
        due("to nobody", x.signs(0, 2), -1);
        due("by nobody", x.signs(-1, 0), -1);
        due("refused", x.count(11), 3);
        due("signings", x.count(3), 1);
    }

    private static void promise7Feuds() {
        CousinsByAgreement x = Told.county("pp020;pp020;pp000;");
        due("feud", x.feuds(1, 0), 1);
        due("feud of both", x.tie(0, 1, 1), 1);
        due("none any more", x.feuds(0, 1), 0);
        due("none of both", x.tie(1, 0, 1), 0);
        due("with himself", x.feuds(0, 0), -1);
        due("with nobody", x.feuds(0, 3), -1);
        due("with nobody below", x.feuds(0, LEAST), -1);
        due("feuds", x.count(4), 0);
    }

    private static void promise8Gets() {
        CousinsByAgreement x = Told.county("pp020;");
        due("gets", x.gets(0, 99), 20);
        due("gets none", x.gets(0, 0), 99);
        due("has none", x.person(0, 2), 0);
        due("above", x.gets(0, 100), -6);
        due("below", x.gets(0, -1), -4);
        due("nobody before below", x.gets(1, -1), -1);
        due("has none still", x.person(0, 2), 0);
    }

    private static void promise9Turn() {
        CousinsByAgreement x = Told.county("pw720;");
        due("turns", x.turn(0, 5, 9), 37);
        due("turned", x.turn(0, 0, 0), 59);
        due("kind above", x.turn(0, 6, -1), -2);
        due("kind below", x.turn(0, -1, 10), -2);
        due("figure below", x.turn(0, 1, -1), -4);
        due("figure above", x.turn(0, 1, 10), -6);
        due("nobody before all", x.turn(1, 9, 10), -1);
        due("kind stays", x.person(0, 0), 0);
        due("figure stays", x.person(0, 1), 0);
    }

    private static void money(String text, int... want) {
        CousinsByAgreement x = Told.county(text);
        int all = x.years(1);
        int sum = 0;
        for (int one = 0; one < want.length; one++) {
            due(text + " has then " + one, x.person(one, 2), want[one]);
            sum += want[one];
        }
        due(text + " all then", all, sum);
        due(text + " year", x.count(1), 1);
    }

    private static void promise10Years() {
        money("pp020;pl712;b01;", 22, 10);
        money("pp020;pl712;s01;", 20, 12);
        money("pp020;pl712;b01;f01;", 20, 12);
        money("pp099;pl999;b01;", 99, 95);
        money("pp010;pw010;b01;", 10, 10);
        money("pw010;pp010;b01;", 11, 9);
        money("pa010;pt011;b01;", 9, 12);
        money("pa010;pt009;b01;", 8, 11);
        money("pd920;pt020;b01;", 12, 28);
        money("pp001;pt000;pt000;b01;b02;", 0, 1, 0);
        CousinsByAgreement x = Told.county("pp001;pt000;pt000;b01;b02;y01;");
        due("to the first still", x.tie(0, 1, 2), 1);
        due("to the second no more", x.tie(0, 2, 0), 0);
        due("the second still to him", x.tie(2, 0, 0), 1);
        x = Told.county("pd900;pa999;b01;y01;");
        due("as they are then: the second has nobody to pay", x.person(1, 2), 99);
        due("the second has signed", x.person(1, 4), 1);
        x = Told.county("pl308;pt000;b01;");
        due("four years", x.years(4), 8);
        due("paid all", x.person(0, 2), 0);
        due("kin as long as he could pay", x.tie(0, 1, 2), 1);
        x.years(1);
        due("no more", x.tie(0, 1, 2), 0);
    }

    private static void promise10YearLimit() {
        CousinsByAgreement x = Told.county("pp020;");
        due("no year", x.years(0), -4);
        due("years below", x.years(LEAST), -4);
        due("years above", x.years(61), -6);
        due("years far above", x.years(GREATEST), -6);
        for (int i = 0; i < 16; i++) {
            due("sixty years", x.years(60), 20);
        }
        due("above 999", x.years(40), -6);
        due("year stays", x.count(1), 960);
        due("just 999", x.years(39), 20);
        due("one more", x.years(1), -6);
        due("year", x.count(1), 999);
        due("in thought it may pass", x.hasThen(0, 60, 0), 20);
        due("refused", x.count(16), 4);
    }

    private static void promises35To37Row() {
        CousinsByAgreement x = Told.county("pp020;pp030;");
        due("row below", x.row(-1), -4);
        due("row above", x.row(100), -6);
        due("clear none", x.clear(), 0);
        due("row", x.row(20), 1);
        due("row", x.row(30), 2);
        due("all is so", x.judge(), -9);
        due("the row has none then", x.count(6), 0);
        due("none is so", x.judge(), -9);
        x.row(20);
        x.row(31);
        x.row(7);
        due("the first that is not so", x.judge(), 1);
        x.row(21);
        x.row(31);
        due("the very first", x.judge(), 0);
        x.row(20);
        x.row(30);
        x.row(0);
        due("nobody there", x.judge(), 2);
        for (int i = 1; i <= 16; i++) {
            due("row " + i, x.row(i == 1 ? 0 : 99), i);
        }
        due("no room", x.row(0), -6);
        due("below, no room", x.row(-1), -4);
        due("in the row", x.count(6), 16);
        due("clear", x.clear(), 16);
        due("clear again", x.clear(), 0);
        due("row anew", x.row(5), 1);
    }

    private static void promises39And40Image() {
        CousinsByAgreement x = Told.county("pp020;pl712;b01;y03;");
        due("none yet", x.on(), -3);
        due("state refused", x.count(13), 1);
        due("image", x.image(), 3);
        x.years(5);
        x.feuds(0, 1);
        x.signs(0, 1);
        x.turn(0, 4, 4);
        Told.tell(x, "pp099;b02;");
        x.row(5);
        x.letter('p');
        x.person(9, 9);
        due("on", x.on(), 3);
        due("people", x.count(0), 2);
        due("year", x.count(1), 3);
        due("money", x.person(0, 2), 26);
        due("kind", x.person(0, 0), 0);
        due("figure", x.person(0, 1), 0);
        due("kin", x.tie(0, 1, 2), 1);
        due("no feud", x.count(4), 0);
        due("signings", x.count(3), 2);
        due("the row is not in it", x.count(6), 1);
        due("letters are not in it", x.count(7), 1);
        due("refusals are not in it", x.count(11), 1);
        x.gets(0, 0);
        due("on again", x.on(), 3);
        due("money again", x.person(0, 2), 26);
        x.clear();
        x.county();
        Told.tell(x, "pp050;");
        due("one more has signed to nobody", x.person(2, 4), 0);
        due("nor has he a feud", x.tie(2, 0, 1), 0);
        due("a new image", x.image(), 3);
        x.gets(2, 1);
        x.on();
        due("the new one counts", x.person(2, 2), 50);
    }

    private static void promise41Count() {
        CousinsByAgreement x = Told.county("pp020;pp010;pp005;b01;s02;f12;f02;y02;");
        x.row(1);
        x.row(2);
        x.letter('p');
        int[] want = {3, 2, 35, 3, 2, 1, 2, 1};
        for (int what = 0; what < want.length; what++) {
            due("count " + what, x.count(what), want[what]);
        }
        x.person(3, 0);
        x.feudCosts(0, 0, 0);
        x.deaths(1, 1, 0, 0, 0, 0);
        x.mean(-1);
        x.on();
        x.years(0);
        x.feudCosts(0, 1, -1);
        x.richest(61);
        int[] refusals = {3, 1, 1, 2, 0, 1};
        for (int i = 0; i < refusals.length; i++) {
            due("refusals " + (-1 - i), x.count(11 + i), refusals[i]);
        }
        int[] others = {-1, 8, 9, 10, 17, LEAST, GREATEST};
        for (int what : others) {
            due("count " + what, x.count(what), -9);
        }
        due("another what is no refusal", x.count(12), 1);
    }
}
