import com.sun.management.ThreadMXBean;
import java.lang.management.ManagementFactory;
import java.lang.reflect.Method;

/** All calls of a run live in one room: calls make no objects, and what they think in is made once. */
public final class RoomTest {
    private static final String FULL = "pp899;pl799;pt699;pw599;pd499;pa399;pp299;pl199;";

    private RoomTest() {
    }

    public static void main(String[] args) {
        Check check = new Check("RoomTest");
        run();
        ThreadMXBean bean = (ThreadMXBean) ManagementFactory.getThreadMXBean();
        long self = Thread.currentThread().getId();
        long start = bean.getThreadAllocatedBytes(self);
        new CousinsByAgreement();
        long made = bean.getThreadAllocatedBytes(self) - start;
        check.holds("a new object is small: " + made, made < 20000);
        CousinsByAgreement county = fullCounty();
        start = bean.getThreadAllocatedBytes(self);
        dearCalls(county);
        long more = bean.getThreadAllocatedBytes(self) - start;
        check.holds("dear calls make nothing: " + more, more < 4096);
        endsForAnything(check);
        check.end();
    }

    private static void run() {
        for (int i = 0; i < 3; i++) {
            dearCalls(fullCounty());
        }
    }

    private static CousinsByAgreement fullCounty() {
        CousinsByAgreement county = Told.county(FULL);
        for (int one = 0; one < 8; one++) {
            for (int other = 0; other < 8; other++) {
                if (one != other) {
                    county.signs(one, other);
                }
            }
        }
        return county;
    }

    private static void dearCalls(CousinsByAgreement x) {
        for (int i = 0; i < 20; i++) {
            x.deaths(0, 1, 7, 20, 50, 0);
            x.lots(20, i, 0);
            x.buys(0, 20);
            x.bestCut(1, 20);
            x.bestSign(2, 20);
            x.feudCosts(0, 1, 60);
            x.first(0);
            x.first(2);
            x.ruined(3);
            x.two(0, 1, 20);
            x.row(i);
            x.whatIs(0, 1);
            x.rooms(7);
            x.couples(99, 7);
            x.clan(0);
            x.farthest(0);
            x.image();
            x.years(1);
            x.on();
            x.letter('p');
            x.county();
            x.count(5);
            x.feuds(i % 8, (i + 3) % 8);
        }
    }

    /** Every call with numbers from all over, on nobody, on some and on a full county: it only has to answer. */
    private static void endsForAnything(Check check) {
        int[] numbers = {Integer.MIN_VALUE, -1000, -2, -1, 0, 1, 2, 7, 8, 31, 32, 60, 99, 255, 1000, Integer.MAX_VALUE};
        CousinsByAgreement[] counties = {new CousinsByAgreement(), Told.county("pp001;pa099;b01;"), fullCounty()};
        for (CousinsByAgreement county : counties) {
            for (String name : Face.NAMES) {
                Method method = Face.method(CousinsByAgreement.class, name);
                int many = method.getParameterCount();
                for (int i = 0; i < Math.pow(numbers.length, Math.min(3, many)); i++) {
                    int[] args = new int[many];
                    int left = i;
                    for (int place = 0; place < many; place++) {
                        args[place] = numbers[(left + place / 3) % numbers.length];
                        left = place % 3 == 2 ? i : left / numbers.length;
                    }
                    Face.answer(method, county, args);
                }
                check.holds(name + " answers", true);
            }
        }
    }
}
