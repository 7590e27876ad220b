/** Holds each answer against the one that is due, and ends a test with exit code 1 if one was wrong. */
final class Check {
    private final String name;
    private int asked;
    private int wrong;

    Check(String name) {
        this.name = name;
    }

    void due(String call, long got, long want) {
        asked++;
        if (got != want) {
            wrong++;
            System.out.println(call + " answered " + got + ", due is " + want);
        }
    }

    void holds(String what, boolean yes) {
        asked++;
        if (!yes) {
            wrong++;
            System.out.println("not so: " + what);
        }
    }

    boolean isTired() {
        return wrong > 50;
    }

    void end() {
        System.out.println(name + ": " + asked + " answers, " + wrong + " wrong");
        if (wrong != 0) {
            System.exit(1);
        }
    }
}
