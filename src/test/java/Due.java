/** Counts the answers that are not as due, and prints them. */
final class Due {
    private int asked;
    private int wrong;

    void is(String call, long got, long want) {
        asked++;
        if (got != want) {
            wrong++;
            System.out.println("  " + call + " answered " + got + ", due is " + want);
        }
    }

    void is(String call, boolean got, boolean want) {
        is(call, got ? 1 : 0, want ? 1 : 0);
    }

    /** A call that is done: its answer, and STATUS 0. */
    void done(WheelTables x, String call, long got, long want) {
        is(call, got, want);
        is("status() behind " + call, x.status(), 0);
    }

    void done(WheelTables x, String call, boolean got) {
        done(x, call, got ? 1 : 0, 1);
    }

    /** A call that is refused: NONE and the STATUS that is due. */
    void refused(WheelTables x, String call, long got, int status) {
        is(call, got, WheelTables.NONE);
        is("status() behind " + call, x.status(), status);
    }

    void refused(WheelTables x, String call, boolean got, int status) {
        is(call, got, false);
        is("status() behind " + call, x.status(), status);
    }

    /** Ends the program: with 1 if an answer was wrong. */
    void end() {
        System.out.println("  " + asked + " answers, " + wrong + " not as due");
        if (wrong != 0) {
            System.exit(1);
        }
    }
}
