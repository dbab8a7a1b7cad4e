/** Counts the answers that are not the ones that are due, and ends a test by them. */
final class Check {
    private final String name;
    private int checks;
    private int wrong;

    Check(String name) {
        this.name = name;
    }

    void same(String call, long got, long want) {
        isTrue(call + " answered " + got + ", due is " + want, got == want);
    }

    /** Compares the bits, so that 0.0 and -0.0 are two. */
    void sameDouble(String call, double got, double want) {
        isTrue(call + " answered " + got + ", due is " + want,
            Double.doubleToLongBits(got) == Double.doubleToLongBits(want));
    }

    void isTrue(String what, boolean holds) {
        checks++;
        if (!holds) {
            wrong++;
            if (wrong <= 30) {
                System.out.println(name + ": " + what);
            }
        }
    }

    void end() {
        System.out.println(name + ": " + checks + " checks, " + wrong + " wrong");
        System.exit(wrong == 0 ? 0 : 1);
    }
}
