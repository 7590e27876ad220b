import java.util.Arrays;
import java.util.function.Supplier;

/** The letters of a county: a fault of each kind at each place where one can stand, and that nothing comes with one. */
public final class FaultTest {
    private static final Check CHECK = new Check("FaultTest");
    private static final int MOST_LETTERS = 96;
    private static final String DIGITS = "0123456789";
    private static final String STARTS = "psbfmy";
    private static final String KINDS = "pltwda";
    private static final String TWO = "pp020;pl712;";
    private static final String EIGHT = "pp001;pl102;pt203;pw304;pd405;pa506;pp607;pp708;";
    /** Every kind of statement, and all the letters that there can be; it comes where there are TWO. */
    private static final String ALL = "pl712;s01;b12;f02;m155;y01;".repeat(3).concat("pt003;m099;y60;");
    /** Statements of which none is as it must be where there are TWO. */
    private static final String[] SENSELESS = {"s00;", "s11;", "s02;", "s20;", "s19;", "s98;", "b00;", "b11;", "b02;",
        "b20;", "b91;", "f00;", "f11;", "f02;", "f20;", "f89;", "m200;", "m899;", "m955;", "y00;", "y61;", "y99;"};

    private FaultTest() {
    }

    public static void main(String[] args) {
        wholeTextComes();
        noLetterAtAll();
        wrongLetterAtEachPlace();
        rightLetterAtEachPlace();
        endAtEachPlace();
        senselessAtEachPlace();
        senselessBehindOneMore();
        ninthAtEachPlace();
        yearAboveAtEachPlace();
        formGoesBeforeSense();
        peopleSoFar();
        yearsInRange();
        CHECK.end();
    }

    private static CousinsByAgreement two() {
        CousinsByAgreement x = Told.county(TWO + "b01;y03;");
        x.image();
        x.row(20);
        x.gets(0, 31);
        return x;
    }

    private static CousinsByAgreement eight() {
        return Told.county(EIGHT);
    }

    private static CousinsByAgreement inYear(int year) {
        CousinsByAgreement x = Told.county(TWO);
        for (int left = year; left > 0; left -= 60) {
            x.years(Math.min(60, left));
        }
        return x;
    }

    /** The text is told to a new object: the answer is the fault, and all is as it was, without the letters. */
    private static void fault(Supplier<CousinsByAgreement> made, String text, int want) {
        CousinsByAgreement x = made.get();
        CHECK.due("county " + text, Told.tell(x, text), want);
        CHECK.holds("nothing comes with " + text, Arrays.equals(Sight.look(x), Sight.look(made.get())));
        CHECK.holds("nothing inside comes with " + text,
                Arrays.equals(Sight.lookInside(x), Sight.lookInside(made.get())));
    }

    private static void comes(Supplier<CousinsByAgreement> made, String text) {
        int statements = text.length() - text.replace(";", "").length();
        CousinsByAgreement x = made.get();
        CHECK.due("county " + text, Told.tell(x, text), statements);
        CHECK.due("letters behind " + text, x.count(7), 0);
    }

    /** Which letters can stand at a place of a statement of this letter. */
    private static String fitting(char start, int within) {
        String form = start == 'p' ? "psddd;" : start == 'm' ? "mddd;" : "sdd;";
        if (within == 0) {
            return STARTS;
        }
        return form.charAt(within) == ';' ? ";" : form.charAt(within) == 's' ? KINDS : DIGITS;
    }

    private static int startOf(String text, int place) {
        return text.lastIndexOf(';', place - 1) + 1;
    }

    /** Statements that come and change something where there are TWO, as long as told; null where none are. */
    private static String before(int length) {
        if (length < 0 || length == 1 || length == 2 || length == 3 || length == 6 || length == 7 || length == 11) {
            return null;
        }
        int fives = length % 4;
        return "m055;".repeat(fives) + "s01;".repeat((length - 5 * fives) / 4);
    }

    private static void wholeTextComes() {
        CHECK.due("letters", ALL.length(), MOST_LETTERS);
        comes(FaultTest::two, ALL);
        CousinsByAgreement x = two();
        Told.tell(x, ALL);
        CHECK.due("people then", x.count(0), 6);
        CHECK.due("year then", x.count(1), 66);
        x = new CousinsByAgreement();
        for (char c : ALL.toCharArray()) {
            x.letter(c);
        }
        CHECK.due("one more is refused", x.letter('x'), -6);
        CHECK.due("and is not among them", x.county(), -2006);
    }

    private static void noLetterAtAll() {
        fault(CousinsByAgreement::new, "", -1000);
        fault(FaultTest::two, "", -1000);
        fault(FaultTest::eight, "", -1000);
        CousinsByAgreement x = new CousinsByAgreement();
        x.letter(-1);
        x.letter(256);
        CHECK.due("refused letters have not come", x.county(), -1000);
        CHECK.due("they were counted", x.count(14) + x.count(16), 2);
    }

    private static void wrongLetterAtEachPlace() {
        for (int place = 0; place < MOST_LETTERS; place++) {
            int start = startOf(ALL, place);
            String fitting = fitting(ALL.charAt(start), place - start);
            for (char c = 0; c <= 255; c++) {
                if (fitting.indexOf(c) < 0) {
                    fault(FaultTest::two, ALL.substring(0, place) + c + ALL.substring(place + 1), -1000 - place);
                }
            }
        }
    }

    private static void rightLetterAtEachPlace() {
        for (String told : new String[] {"pp020;", "s01;", "b01;", "f01;", "m020;", "y12;"}) {
            for (int place = 1; place < told.length(); place++) {
                for (char c : fitting(told.charAt(0), place).toCharArray()) {
                    int got = Told.tell(two(), told.substring(0, place) + c + told.substring(place + 1));
                    CHECK.holds(c + " may stand at " + place + " of " + told, got == 1 || got == -2000);
                }
            }
        }
    }

    private static void endAtEachPlace() {
        for (int end = 1; end <= MOST_LETTERS; end++) {
            for (String told : new String[] {"pp020;", "s01;", "b01;", "f01;", "m020;", "y12;"}) {
                for (int cut = 1; cut < told.length(); cut++) {
                    String before = before(end - cut);
                    if (before != null) {
                        fault(FaultTest::two, before + told.substring(0, cut), -1000 - end);
                    }
                }
            }
        }
    }

    private static void senselessAtEachPlace() {
        for (int place = 0; place < MOST_LETTERS; place++) {
            String before = before(place);
            for (String told : SENSELESS) {
                int room = MOST_LETTERS - place - told.length();
                if (before != null && room >= 0) {
                    fault(FaultTest::two, before + told, -2000 - place);
                    // A later one as bad, and those that would come: the first is told.
                    String behind = room >= 8 ? "y61;m077;s00;".substring(0, room >= 13 ? 13 : 4) : "";
                    fault(FaultTest::two, before + told + behind, -2000 - place);
                }
            }
        }
    }

    /** The two places that only one more of the people can lead to: then there are three. */
    private static void senselessBehindOneMore() {
        for (String told : SENSELESS) {
            if (told.indexOf('2') < 0) {
                fault(FaultTest::two, "pt000;" + told, -2006);
                fault(FaultTest::two, "m055;pt000;" + told, -2011);
            }
        }
    }

    private static void ninthAtEachPlace() {
        for (int place = 0; place + 6 <= MOST_LETTERS; place++) {
            if (before(place) != null) {
                fault(FaultTest::eight, before(place) + "pd999;", -2000 - place);
            }
        }
        comes(() -> Told.county(EIGHT.substring(6)), "pd999;");
        fault(() -> Told.county(EIGHT.substring(6)), "pd999;pp000;", -2006);
        fault(CousinsByAgreement::new, EIGHT + "pp000;", -2048);
        comes(CousinsByAgreement::new, EIGHT);
    }

    private static void yearAboveAtEachPlace() {
        for (int place = 0; place + 4 <= MOST_LETTERS; place++) {
            String before = before(place);
            if (before != null) {
                fault(() -> inYear(999), before + "y01;", -2000 - place);
                fault(() -> inYear(940), before + "y60;", -2000 - place);
                comes(() -> inYear(939), before + "y60;");
            }
        }
        comes(CousinsByAgreement::new, "y60;".repeat(16) + "y39;");
        fault(CousinsByAgreement::new, "y60;".repeat(16) + "y40;", -2064);
        fault(CousinsByAgreement::new, "y60;".repeat(16) + "y39;y01;", -2068);
    }

    private static void formGoesBeforeSense() {
        for (int place = 4; place < MOST_LETTERS; place++) {
            String text = "s00;" + before(92);
            fault(FaultTest::two, text.substring(0, place) + 'x' + text.substring(place + 1), -1000 - place);
        }
        fault(FaultTest::eight, "pp000;y00;m9", -1012);
        fault(() -> inYear(999), "y01;;", -1004);
    }

    /** Each two numbers with nobody to eight there: one is there if his number is below how many there are. */
    private static void peopleSoFar() {
        for (int people = 0; people <= 8; people++) {
            String there = EIGHT.substring(0, 6 * people);
            Supplier<CousinsByAgreement> made = there.isEmpty() ? CousinsByAgreement::new : () -> Told.county(there);
            for (int one = 0; one <= 9; one++) {
                enriches(made, one, people);
                for (int other = 0; other <= 9; other++) {
                    boolean fine = one < people && other < people && one != other;
                    for (String start : new String[] {"s", "b", "f"}) {
                        tellOne(made, start + one + other + ";", fine);
                    }
                }
            }
        }
        comes(CousinsByAgreement::new, "pp000;m012;pp000;s01;pp000;s02;f12;b21;");
        fault(CousinsByAgreement::new, "pp000;m012;pp000;s01;s02;pp000;", -2021);
        fault(CousinsByAgreement::new, "m012;pp000;", -2000);
    }

    private static void enriches(Supplier<CousinsByAgreement> made, int one, int people) {
        for (String money : new String[] {"00", "01", "10", "99"}) {
            tellOne(made, "m" + one + money + ";", one < people);
            if (one < people) {
                CousinsByAgreement x = made.get();
                Told.tell(x, "m" + one + money + ";");
                CHECK.due("money of " + one + " told " + money, x.person(one, 2), Integer.parseInt(money));
            }
        }
    }

    private static void tellOne(Supplier<CousinsByAgreement> made, String text, boolean fine) {
        if (fine) {
            comes(made, text);
        } else {
            fault(made, text, -2000);
        }
    }

    private static void yearsInRange() {
        for (int year : new int[] {0, 938, 939, 940, 998, 999}) {
            for (int n = 0; n <= 99; n++) {
                String text = "y" + n / 10 + n % 10 + ";";
                boolean fine = n >= 1 && n <= 60 && year + n <= 999;
                tellOne(() -> inYear(year), text, fine);
                CousinsByAgreement x = inYear(year);
                Told.tell(x, text);
                CHECK.due("year then by " + text, x.count(1), fine ? year + n : year);
            }
        }
    }
}
