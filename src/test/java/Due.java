/** Counts and prints the answers that are not the ones that are due. */
final class Due {
    private final String name;
    private int asked;
    private int wrong;

    Due(String name) {
        this.name = name;
    }

    void is(String call, long got, long want) {
        asked++;
        if (got != want) {
            wrong++;
            if (wrong <= 50) {
                System.out.println(name + ": " + call + " answered " + got + ", due is " + want);
            }
        }
    }

    void holds(String what, boolean so) {
        is(what, so ? 1 : 0, 1);
    }

    /** Whether anything was asked, and all of it answered as due. */
    boolean allAsDue() {
        if (asked == 0) {
            System.out.println(name + ": asked nothing");
        }
        return asked != 0 && wrong == 0;
    }

    void end() {
        System.out.println(name + ": " + asked + " answers, " + wrong + " not as due");
        if (!allAsDue()) {
            System.exit(1);
        }
    }
}
