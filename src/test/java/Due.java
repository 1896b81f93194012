/** Counts and prints the answers of one test that are not the ones that are due. */
final class Due {
    private int wrong;
    private int looked;
    private String about = "";

    /** What the next answers belong to, for the message. */
    void about(String text) {
        about = text;
    }

    void is(String call, long got, long want) {
        looked++;
        if (got != want) {
            wrong++;
            System.out.println(about + ": " + call + " answered " + got + ", due is " + want);
        }
    }

    void is(String call, boolean got, boolean want) {
        is(call, got ? 1 : 0, want ? 1 : 0);
    }

    /** The table has just these bytes. */
    void sameBytes(RefStack x, int table, int[] want) {
        is("size(" + table + ")", x.size(table), want.length);
        for (int k = 0; k < want.length; k++) {
            is("byteAt(" + table + ", " + k + ")", x.byteAt(table, k), want[k]);
        }
    }

    /** Ends the program with exit code 1 if some answer was wrong. */
    void end() {
        System.out.println(looked + " answers looked at, " + wrong + " not as due");
        if (wrong != 0 || looked == 0) {
            System.exit(1);
        }
    }
}
