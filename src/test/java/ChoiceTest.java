/** Promises 26 to 34 and 38: what is left, parted, chosen, likely, guessed and drawn. */
public final class ChoiceTest {
    private static final Check CHECK = new Check("ChoiceTest");
    private static final long REFUSED = 4000000000000000000L;

    private ChoiceTest() {
    }

    private static void due(String call, long got, long want) {
        CHECK.due(call, got, want);
    }

    public static void main(String[] args) {
        promise26Will();
        promise27Rooms();
        promise28Couples();
        promise29Buys();
        promise30Matters();
        promise31Deaths();
        promise31DeathsRefused();
        promise32Mean();
        promise33Two();
        promise34WhatIs();
        promise38Lots();
        CHECK.end();
    }

    private static void promise26Will() {
        CousinsByAgreement x = Told.county("pp000;pp020;pp000;pp000;pp000;b10;b12;b14;s13;");
        int[] parts = {7, 0, 7, -9, 6};
        for (int one = 0; one < parts.length; one++) {
            due("part of " + one, x.will(1, one), one == 1 ? -1 : parts[one]);
        }
        x.gets(1, 2);
        due("one each", x.will(1, 2), 1);
        due("till it is gone", x.will(1, 4), 0);
        due("the money stays", x.person(1, 2), 2);
        due("nobody", x.will(1, 5), -1);
        due("nobody dead", x.will(-1, 0), -1);
        due("without kin", x.will(3, 0), -9);
    }

    private static void promise27Rooms() {
        CousinsByAgreement x = Told.county("pp000;pp000;pp000;pp000;f02;f23;f31;");
        int[] seats = {0, 1, 1, 0};
        due("fewest", x.rooms(-1), 2);
        for (int one = 0; one < seats.length; one++) {
            due("room of " + one, x.rooms(one), seats[one]);
        }
        x = Told.county("pp000;pp000;pp000;pp000;pp000;f01;f12;f23;f34;f40;");
        int[] ring = {0, 1, 0, 1, 2};
        due("a ring of five", x.rooms(-1), 3);
        for (int one = 0; one < ring.length; one++) {
            due("ring's room of " + one, x.rooms(one), ring[one]);
        }
        x.feuds(0, 1);
        due("asked again, with a feud less", x.rooms(-1), 2);
        due("the last one's room then", x.rooms(4), 1);
        due("nobody", x.rooms(5), -1);
        due("nobody below", x.rooms(-2), -1);
        due("one is enough", Told.county("pp000;pp000;").rooms(-1), 1);
        due("none for nobody", new CousinsByAgreement().rooms(-1), 0);
        x = Told.county("pp000;pp000;pp000;pp000;pp000;pp000;pp000;pp000;");
        for (int one = 0; one < 8; one++) {
            for (int other = one + 1; other < 8; other++) {
                x.feuds(one, other);
            }
        }
        due("one for each", x.rooms(-1), 8);
        due("the last room", x.rooms(7), 7);
    }

    private static void partners(CousinsByAgreement x, int v, int... want) {
        for (int one = 0; one < want.length; one++) {
            due("partner of " + one + " by " + v, x.couples(v, one), want[one]);
        }
    }

    private static void promise28Couples() {
        CousinsByAgreement x = Told.county("pp010;pp014;pp006;pp018;");
        due("couples", x.couples(4, -1), 2);
        partners(x, 4, 2, 3, 0, 1);
        due("too far apart", x.couples(3, -1), 0);
        partners(x, 3, -9, -9, -9, -9);
        partners(x, 99, 1, 0, 3, 2);
        x.feuds(0, 2);
        x.couples(99, -1);
        due("not at feud", x.couples(4, -1), 1);
        partners(x, 4, 1, 0, -9, -9);
        due("below before nobody", x.couples(-1, 9), -4);
        due("above before nobody", x.couples(100, 9), -6);
        due("nobody", x.couples(99, 4), -1);
        due("nobody below", x.couples(0, -2), -1);
        x = Told.county("pp000;pp000;pp000;");
        partners(x, 0, 1, 0, -9);
        due("of nobody", new CousinsByAgreement().couples(99, -1), 0);
        due("of eight", Told.county("pp000;pp000;pp000;pp000;pp000;pp000;pp000;pp000;").couples(0, -1), 4);
    }

    private static void promise29Buys() {
        CousinsByAgreement x = Told.county("pp005;pp005;pl950;b12;");
        due("whose kin pay most", x.buys(0, 3), 1);
        due("better for nobody", x.buys(1, 3), -9);
        due("nothing has changed", x.person(0, 4), 0);
        due("no year", x.buys(0, 0), -9);
        x = Told.county("pp005;pp005;pp005;pl950;b13;b23;");
        due("of several the least", x.buys(0, 3), 1);
        x.feuds(1, 3);
        due("feuds are bought, too", x.buys(0, 3), 2);
        due("nobody first", x.buys(4, 21), -1);
        due("below", x.buys(0, -1), -4);
        due("above", x.buys(0, 21), -6);
        x = Told.county("pl950;pt005;pl950;b01;b02;");
        due("the tie between the two stays", x.buys(1, 3), 0);
        due("the lord's place, who has but one to pay", x.buys(0, 3), 2);
    }

    private static void promise30Matters() {
        CousinsByAgreement x = Told.county("pp000;pp000;pp000;pp000;b01;b12;b13;b23;");
        due("who", x.matters(0), 1);
        due("how many then", x.matters(1), 1);
        x.signs(0, 1);
        due("of several the least", x.matters(0), 1);
        due("how many then", x.matters(1), 1);
        x.signs(2, 1);
        due("who is in both that are left", x.matters(0), 3);
        due("how many of these then", x.matters(1), 0);
        x.feuds(2, 3);
        due("the first of one pair", x.matters(0), 1);
        due("none then", x.matters(1), 0);
        due("what", x.matters(2), -2);
        due("what below", x.matters(-1), -2);
        due("nobody", new CousinsByAgreement().matters(0), -9);
        due("nobody, how many", new CousinsByAgreement().matters(1), -9);
        due("without kin", Told.county("pp000;pp000;").matters(0), 0);
        due("without kin, how many", Told.county("pp000;pp000;").matters(1), 0);
    }

    private static void likely(CousinsByAgreement x, int[] asked, long above, long below) {
        String call = "deaths " + java.util.Arrays.toString(asked);
        due(call, x.deaths(asked[0], asked[1], asked[2], asked[3], asked[4], 0), above);
        due(call, x.deaths(asked[0], asked[1], asked[2], asked[3], asked[4], 1), below);
    }

    private static void promise31Deaths() {
        CousinsByAgreement x = Told.county("pl999;pt000;b01;");
        likely(x, new int[] {0, 1, 2, 3, 4}, 8, 9);
        likely(x, new int[] {0, 1, 2, 3, 8}, 4, 9);
        likely(x, new int[] {0, 1, 2, 3, 9}, 0, 1);
        likely(x, new int[] {0, 1, 2, 3, 0}, 1, 1);
        likely(x, new int[] {0, 1, 2, 4, 8}, 9, 16);
        likely(x, new int[] {0, 1, 3, 2, 8}, 1, 2);
        likely(x, new int[] {0, 1, 0, 2, 0}, 1, 1);
        likely(x, new int[] {0, 1, 0, 20, 99}, 0, 1);
        likely(x, new int[] {0, 1, 7, 20, 28}, 893871739L, 1280000000L);
        likely(x, new int[] {1, 0, 1, 4, 99}, 1, 4);
        likely(x, new int[] {1, 0, 1, 4, 95}, 1, 1);
        due("no year has gone by", x.count(1), 0);
        x = Told.county("pt000;pt000;pl999;b02;b12;");
        likely(x, new int[] {1, 0, 1, 2, 4}, 1, 1);
        likely(x, new int[] {1, 2, 1, 2, 95}, 1, 2);
        likely(x, new int[] {2, 0, 1, 2, 4}, 1, 2);
        // The aunt can't pay the tinker in the first year: only his death then keeps her signed to pay in the second.
        x = Told.county("pt000;pa001;pl950;b01;b12;");
        likely(x, new int[] {0, 1, 2, 2, 7}, 3, 4);
        likely(x, new int[] {0, 1, 2, 2, 5}, 1, 1);
        likely(x, new int[] {0, 1, 2, 2, 8}, 0, 1);
    }

    private static void promise31DeathsRefused() {
        CousinsByAgreement x = Told.county("pl999;pt000;b01;");
        due("one twice", x.deaths(0, 0, -1, 1, -1, 2), REFUSED + 1);
        due("nobody dead", x.deaths(2, 0, 0, 2, 0, 0), REFUSED + 1);
        due("nobody", x.deaths(0, 2, 0, 2, 0, 0), REFUSED + 1);
        due("n below", x.deaths(0, 1, -1, 21, 100, 2), REFUSED + 4);
        due("t below", x.deaths(0, 1, 8, 1, 100, 2), REFUSED + 4);
        due("v below", x.deaths(0, 1, 8, 21, -1, 2), REFUSED + 4);
        due("n above", x.deaths(0, 1, 8, 2, 0, 2), REFUSED + 6);
        due("t above", x.deaths(0, 1, 0, 21, 0, 2), REFUSED + 6);
        due("v above", x.deaths(0, 1, 0, 2, 100, 2), REFUSED + 6);
        due("part", x.deaths(0, 1, 0, 2, 0, 2), REFUSED + 2);
        due("part below", x.deaths(0, 1, 0, 2, 0, -1), REFUSED + 2);
        due("nobodies", x.count(11), 3);
        due("others", x.count(12), 2);
        due("below", x.count(14), 3);
        due("above", x.count(16), 3);
    }

    private static void promise32Mean() {
        CousinsByAgreement x = Told.county("pp010;pp020;pp015;pp001;");
        due("above the line", x.mean(0), 23);
        due("below the line", x.mean(1), 2);
        x.gets(3, 15);
        due("whole", x.mean(0), 15);
        due("by 1", x.mean(1), 1);
        due("part", x.mean(2), REFUSED + 2);
        due("part below", x.mean(-1), REFUSED + 2);
        due("of nobody", new CousinsByAgreement().mean(0), 0);
        due("of nobody by 1", new CousinsByAgreement().mean(1), 1);
        due("of none", Told.county("pp000;pp000;").mean(1), 1);
    }

    private static void promise33Two() {
        CousinsByAgreement x = Told.county("pp010;pp010;b01;");
        // One who signs alone is nobody's kin, so where neither signs neither has more alone.
        due("neither signs", x.two(0, 1, 20), 0);
        due("no year", x.two(1, 0, 0), 0);
        due("the signings stay", x.count(3), 2);
        due("one twice", x.two(1, 1, -1), -1);
        due("nobody", x.two(0, 2, 21), -1);
        due("below", x.two(0, 1, -1), -4);
        due("above", x.two(0, 1, 21), -6);
    }

    private static void promise34WhatIs() {
        CousinsByAgreement x = Told.county("pl320;pt000;b01;");
        due("all kinds", x.whatIs(0, 0), 63);
        due("all figures", x.whatIs(0, 1), 1023);
        x.row(20);
        due("all kinds by what he has", x.whatIs(0, 0), 63);
        x.row(18);
        x.row(16);
        due("lord and aunt", x.whatIs(0, 0), 0b100010);
        due("figures", x.whatIs(0, 1), 0b111000);
        due("the row stays", x.count(6), 3);
        due("he stays", x.person(0, 0), 1);
        due("his figure stays", x.person(0, 1), 3);
        due("not the other one", x.whatIs(1, 0), 0);
        x.clear();
        x.row(21);
        x.row(18);
        due("not by the first number", x.whatIs(0, 0), 0);
        due("no figure by the first number", x.whatIs(0, 1), 0);
        x.clear();
        x.row(20);
        x.row(18);
        x.row(16);
        x.row(99);
        due("none", x.whatIs(0, 0), 0);
        due("no figure", x.whatIs(0, 1), 0);
        due("nobody first", x.whatIs(2, 2), -1);
        due("what", x.whatIs(0, 2), -2);
        due("what below", x.whatIs(0, -1), -2);
    }

    private static void promise38Lots() {
        // From 0 the draws of 2 are 1, 1, 0, 1, 1, 0, 0, 1: the generator's known first numbers.
        CousinsByAgreement x = Told.county("pt010;pt020;");
        int[] twos = {1, 2, 2, 3, 4, 4, 4, 5};
        for (int n = 1; n <= twos.length; n++) {
            due("twos of " + n, x.lots(n, 0, 1), twos[n - 1]);
            due("money of " + n, x.lots(n, 0, 0), 30 * n);
        }
        x.signs(0, 1);
        x.signs(1, 0);
        due("signings of now do not count", x.lots(8, 0, 1), 5);
        due("they stay", x.count(3), 2);
        due("year stays", x.count(1), 0);
        x.feuds(0, 1);
        due("feuds count", x.lots(8, 0, 1), 0);
        x = Told.county("pt010;pt020;pt030;");
        due("two lots of three twos", x.lots(2, 0, 1), 4);
        x = Told.county("pp010;pt020;");
        due("ten years, then no money but kin", x.lots(1, 0, 1), 1);
        x.gets(0, 9);
        due("ten years, dropped in the tenth", x.lots(1, 0, 1), 0);
        due("below", x.lots(0, 0, 2), -4);
        due("above", x.lots(21, 0, 2), -6);
        due("what", x.lots(20, 0, 2), -2);
        due("what below", x.lots(1, 0, -1), -2);
        due("twenty of nobody", new CousinsByAgreement().lots(20, -1, 0), 0);
    }
}
