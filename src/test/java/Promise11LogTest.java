/** Promise 11: log. */
public final class Promise11LogTest {
    private static final int LEAST = Integer.MIN_VALUE;
    private static final int GREATEST = Integer.MAX_VALUE;

    private static long n(String text) {
        return Name.of(text);
    }

    /** The log is just this: rows of TIME, OLD and NEW. */
    private static void is(Due due, RefStack x, String name, int[]... log) {
        for (int i = 0; i < log.length; i++) {
            for (int what = 0; what < 3; what++) {
                due.is("log(" + name + ", " + i + ", " + what + ")", x.log(n(name), i, what), log[i][what]);
            }
        }
        for (int what = 0; what < 3; what++) {
            due.is("log(" + name + ", end, " + what + ")", x.log(n(name), log.length, what), RefStack.NONE);
        }
    }

    private static RefStack changes() {
        RefStack x = Calls.having("a=5", "b=1");
        Calls.change(x, "a=300");
        Calls.change(x, "a>b");
        Calls.change(x, "a=0", "c=9");
        return x;
    }

    static void theLatestFirst(Due due) {
        RefStack x = changes();
        is(due, x, "a", new int[] {4, 0, 0}, new int[] {2, 5, 300}, new int[] {1, 0, 5});
        is(due, x, "b", new int[] {1, 0, 1});
        is(due, x, "c", new int[] {4, 0, 9});
    }

    static void leastAndGreatestNumbers(Due due) {
        RefStack x = Calls.having("a=65535");
        Calls.change(x, "a=1");
        Calls.change(x, "a=65535");
        Calls.change(x, "a=0");
        is(due, x, "a", new int[] {4, 65535, 0}, new int[] {3, 1, 65535}, new int[] {2, 65535, 1},
                new int[] {1, 0, 65535});
    }

    static void ofLongestNames(Due due) {
        RefStack x = Calls.having("abcdefghijkl=5", "abcdefghijkm=6", "abcdefghijk=7");
        is(due, x, "abcdefghijkl", new int[] {1, 0, 5});
        is(due, x, "abcdefghijkm", new int[] {1, 0, 6});
        is(due, x, "abcdefghijk", new int[] {1, 0, 7});
        is(due, x, "abcdefghij");
    }

    static void noneWhenNIsTooSmallOrTooLarge(Due due) {
        RefStack x = changes();
        for (int number : new int[] {-1, -2, LEAST, 3, 4, 40, 65536, GREATEST}) {
            for (int what = 0; what < 3; what++) {
                due.is("log(a, " + number + ", " + what + ")", x.log(1, number, what), RefStack.NONE);
            }
        }
        due.is("log(a, 0, 0)", x.log(1, 0, 0), 4);
        due.is("log(a, 2, 0)", x.log(1, 2, 0), 1);
    }

    static void noneWhenWhatIsNoneOfThree(Due due) {
        RefStack x = changes();
        for (int what : new int[] {-1, -2, LEAST, 3, 4, 256, GREATEST}) {
            due.is("log(a, 1, " + what + ")", x.log(1, 1, what), RefStack.NONE);
        }
        due.is("log(a, 1, 0)", x.log(1, 1, 0), 2);
        due.is("log(a, 1, 2)", x.log(1, 1, 2), 300);
    }

    static void noneWhenTheNameHasNoEntry(Due due) {
        RefStack x = changes();
        Calls.change(x, "d>a");
        is(due, x, "d");
        is(due, x, "q");
        is(due, x, "ab");
        is(due, new RefStack(), "a");
    }

    static void noneWhenTheNameIsNotGood(Due due) {
        RefStack x = Calls.having("a=5", "abcdefghijkl=6");
        for (long name : Name.bad()) {
            due.is("log(" + Long.toHexString(name) + ")", x.log(name, 0, 0), RefStack.NONE);
        }
    }

    static void noneChangesNothing(Due due) {
        RefStack x = changes();
        String before = Calls.shown(x);
        Calls.open(x, "a=6");
        due.is("log", x.log(1, 9, 9), RefStack.NONE);
        due.same("after it", Calls.shown(x), before);
        due.is("the transaction is open", x.abort(), 1);
    }

    static void aChangeIsNotThereBeforeTheCommit(Due due) {
        RefStack x = changes();
        Calls.open(x, "b=2");
        is(due, x, "b", new int[] {1, 0, 1});
        x.commit();
        is(due, x, "b", new int[] {5, 1, 2}, new int[] {1, 0, 1});
    }

    static void theLogOfAnAbsentOneIsThereStill(Due due) {
        RefStack x = Calls.having("a=5");
        Calls.change(x, "a=0");
        x.compact();
        due.is("records", x.records(0), 0);
        is(due, x, "a", new int[] {2, 5, 0}, new int[] {1, 0, 5});
    }

    static void entriesOfAllTables(Due due) {
        RefStack x = Edge.sixteenNames();
        Calls.change(x, "a=1", "b=1", "c=1", "d=1", "e=1", "f=1");
        Calls.change(x, "a=2", "b=2");
        Calls.change(x, "a=3");
        due.is("tables", x.tables() > 1, true);
        is(due, x, "a", new int[] {6, 2, 3}, new int[] {5, 1, 2}, new int[] {4, 0, 1});
        is(due, x, "b", new int[] {5, 1, 2}, new int[] {4, 0, 1});
        is(due, x, "g");
    }

    static void twentyFourEntries(Due due) {
        RefStack x = Edge.twentyFourEntries();
        int[][] log = new int[24][];
        for (int i = 0; i < 24; i++) {
            log[i] = new int[] {24 - i, 23 - i, 24 - i};
        }
        is(due, x, "a", log);
    }

    static void fortyEntriesOfOneName(Due due) {
        TableBytes bytes = TableBytes.head(1, 2000).varint(0).varint(40);
        int[][] log = new int[40][];
        for (int i = 0; i < 40; i++) {
            log[i] = new int[] {i == 0 ? 2000 : 101 - i, 100 - i, 101 - i};
            bytes.entry(i % 4 == 0 ? 0 : 1, i % 4 == 0 ? "a" : "", log[i][0], log[i][1], log[i][2]);
        }
        RefStack x = Craft.with(bytes.checked());
        due.is("sound", x.sound(0), true);
        is(due, x, "a", log);
    }

    static void sixtySixEntriesOfTwoTables(Due due) {
        RefStack x = Edge.fortyAnd26Entries();
        int[] places = {0, 1, 39, 40, 50, 51, 52, 53, 64, 65};
        int[] times = {80, 79, 41, 40, 30, 29, 28, 26, 4, 2};
        for (int i = 0; i < places.length; i++) {
            int more = times[i] % 2 == 0 ? 20000 : 0;
            due.is("TIME of " + places[i], x.log(1, places[i], 0), times[i]);
            due.is("OLD of " + places[i], x.log(1, places[i], 1), times[i] + more);
        }
        due.is("none behind them", x.log(1, 66, 0), RefStack.NONE);
    }

    /** Entries of the lower table are later ones than, or at the same time as, the higher one's. */
    static void byFallingTimesWhateverTheTable(Due due) {
        int[] lower = TableBytes.head(1, 9).varint(1).number(0, "a", 0, 7).varint(3)
                .entry(0, "a", 8, 80, 81).entry(1, "", 5, 50, 51).entry(1, "", 1, 10, 11).checked();
        int[] higher = TableBytes.head(5, 5).varint(0).varint(1).entry(0, "a", 5, 3, 4).checked();
        RefStack x = Craft.with(lower, higher);
        is(due, x, "a", new int[] {8, 80, 81}, new int[] {5, 3, 4}, new int[] {5, 50, 51},
                new int[] {1, 10, 11});
    }

    static void damagedBeforeAllElse(Due due) {
        for (int table = 0; table < 2; table++) {
            RefStack x = Calls.twoTables();
            x.damage(table, 0, 0);
            due.is("log", x.log(n("b"), 0, 0), RefStack.DAMAGED);
            due.is("no entry", x.log(n("q"), 0, 0), RefStack.DAMAGED);
            due.is("n", x.log(n("b"), -1, 0), RefStack.DAMAGED);
            due.is("what", x.log(n("b"), 0, 3), RefStack.DAMAGED);
            due.is("not good", x.log(0, 0, 0), RefStack.DAMAGED);
            x.damage(table, 0, 82);
            due.is("mended", x.log(n("b"), 0, 0), 2);
        }
    }

    public static void main(String[] args) {
        Due.runAll(Promise11LogTest.class);
    }
}
