/** Promise 5: commit, what it writes, what it merges, what it refuses, and when it is FULL. */
public final class CommitTest {
    private static final Due DUE = new Due();

    private static long n(String text) {
        return Name.of(text);
    }

    /** A transaction of one update of anything. */
    private static int set(RefStack x, String text, int number) {
        x.begin();
        x.update(n(text), RefStack.NONE, number);
        return x.commit();
    }

    private static void closing() {
        DUE.about("closing");
        RefStack x = new RefStack();
        DUE.is("none open", x.commit(), RefStack.NONE);
        x.begin();
        DUE.is("without changes", x.commit(), 0);
        DUE.is("closed then", x.abort(), RefStack.NONE);
        DUE.is("nothing written", x.tables(), 0);
        DUE.is("done", set(x, "a", 5), 1);
        DUE.is("closed then", x.abort(), RefStack.NONE);
        x.begin();
        x.update(n("a"), 4, 6);
        DUE.is("refused", x.commit(), -101);
        DUE.is("closed then", x.abort(), RefStack.NONE);
        x.begin();
        x.update(n("b"), 0, 6);
        x.damage(0, 0, 0);
        DUE.is("damaged", x.commit(), RefStack.DAMAGED);
        DUE.is("damaged again", x.commit(), RefStack.DAMAGED);
        DUE.is("open still", x.begin(), false);
        x.damage(0, 0, 82);
        DUE.is("mended", x.commit(), 2);
        DUE.is("get(b)", x.get(n("b")), 6);
        x.begin();
        x.damage(0, 0, 0);
        DUE.is("without changes, damaged", x.commit(), RefStack.DAMAGED);
        DUE.is("open still", x.abort(), 0);
        DUE.is("none open, damaged", x.commit(), RefStack.NONE);
    }

    private static void expectations() {
        DUE.about("reason 1");
        RefStack x = new RefStack();
        set(x, "a", 5);
        x.begin();
        x.link(n("l"), n("a"));
        DUE.is("link", x.commit(), 2);
        x.begin();
        x.update(n("a"), 5, 6);
        x.update(n("b"), 0, 1);
        x.update(n("l"), 5, 1);
        DUE.is("a link is not expected by its end's number", x.commit(), -301);
        x.begin();
        x.update(n("l"), 0, 1);
        DUE.is("a link is not absent", x.commit(), -101);
        x.begin();
        x.update(n("a"), 0, 6);
        x.update(n("b"), 1, 6);
        DUE.is("the first one counts", x.commit(), -101);
        x.begin();
        x.update(n("c"), RefStack.NONE, 6);
        x.link(n("d"), n("c"));
        x.update(n("b"), 1, 6);
        DUE.is("absent, 1 expected", x.commit(), -301);
        x.begin();
        x.update(n("l"), RefStack.NONE, 0);
        x.update(n("a"), 5, 0);
        DUE.is("as expected", x.commit(), 3);
        x.begin();
        x.update(n("l"), 0, 0);
        x.update(n("a"), 0, 65535);
        DUE.is("absent as expected", x.commit(), 4);
        x.begin();
        for (int i = 1; i <= 5; i++) {
            x.update(i + 10, RefStack.NONE, 1);
        }
        x.update(n("a"), 65534, 1);
        DUE.is("the sixth", x.commit(), -601);
        DUE.is("nothing was done", x.get(11), 0);
    }

    private static void clashes() {
        DUE.about("reason 2");
        RefStack x = new RefStack();
        set(x, "a/b", 1);
        DUE.is("above", set(x, "a", 1), -102);
        DUE.is("under", set(x, "a/b/c", 1), -102);
        DUE.is("far under", set(x, "a/b/c/d", 1), -102);
        DUE.is("absent may be above", set(x, "a", 0), 2);
        DUE.is("beside", set(x, "a/c", 1), 3);
        DUE.is("going on without a stroke", set(x, "a/bc", 1), 4);
        DUE.is("going on with a dot", set(x, "a/b.c", 1), 5);
        x.begin();
        x.link(n("a"), n("zz"));
        DUE.is("a link clashes too", x.commit(), -102);
        x.begin();
        x.update(n("y"), 0, 1);
        x.update(n("x/y"), 0, 1);
        x.update(n("x"), 0, 1);
        DUE.is("two changes: the earlier one", x.commit(), -202);
        x.begin();
        x.update(n("x"), 0, 1);
        x.update(n("x/y"), 0, 1);
        x.update(n("q"), 3, 1);
        DUE.is("reason 1 of a later one goes first", x.commit(), -301);
        x.begin();
        x.update(n("a/b"), 1, 0);
        x.update(n("a/b/c"), 0, 3);
        DUE.is("in place of the one above", x.commit(), 6);
        x.begin();
        x.update(n("a/b"), 0, 4);
        x.update(n("a/b/c"), 3, 0);
        DUE.is("and back", x.commit(), 7);
        x.begin();
        x.link(n("k"), n("a/b/c"));
        DUE.is("what a link leads to does not clash", x.commit(), 8);
        x.begin();
        x.update(n("k"), RefStack.NONE, 0);
        x.update(n("k/l"), RefStack.NONE, 1);
        DUE.is("a link goes, one under it comes", x.commit(), 9);
        DUE.is("long above", set(x, "cdefghijkl", 1), 10);
        DUE.is("long under", set(x, "cdefghijkl/a", 1), -102);
    }

    private static void bytes() {
        DUE.about("bytes");
        RefStack x = new RefStack();
        x.begin();
        x.update(n("heads/next"), RefStack.NONE, 300);
        x.link(n("head"), n("heads/main"));
        x.update(n("heads/main"), RefStack.NONE, 20000);
        x.update(n("b"), RefStack.NONE, 0);
        x.update(n("heads/nexus"), RefStack.NONE, 127);
        x.update(n("c"), RefStack.NONE, 128);
        DUE.is("commit", x.commit(), 1);
        DUE.sameBytes(x, 0, TableBytes.head(1, 1).varint(6)
                .absent(0, "b", 0).number(0, "c", 0, 128).link(0, "head", 0, "heads/main")
                .number(4, "s/main", 0, 20000)
                .number(0, "heads/next", 0, 300).number(9, "us", 0, 127)
                .varint(5)
                .entry(0, "b", 1, 0, 0).entry(0, "c", 1, 0, 128).entry(0, "heads/main", 1, 0, 20000)
                .entry(6, "next", 1, 0, 300)
                .entry(0, "heads/nexus", 1, 0, 127).checked());
        DUE.is("records", x.records(0), 6);
        x = new RefStack();
        set(x, "a", 5);
        int[] small = {82, 1, 1, 1, 0, 5, 1, 0, 5, 1, 0, 1, 1, 1, 0, 5, 0, 0};
        int[] checked = TableBytes.checked(java.util.Arrays.copyOf(small, small.length - 2));
        DUE.sameBytes(x, 0, checked);
    }

    /** The check of the digits 1 to 9 is known to be 0x29B1; so the tests' own check is right. */
    private static void check() {
        DUE.about("check");
        int[] digits = TableBytes.checked(new int[] {49, 50, 51, 52, 53, 54, 55, 56, 57});
        DUE.is("higher", digits[9], 0x29);
        DUE.is("lower", digits[10], 0xB1);
    }

    private static void links(RefStack x, int count, int first, int nameLength, int toLength) {
        x.begin();
        for (int i = 0; i < count; i++) {
            String name = (char) ('a' + first + i) + "z".repeat(nameLength - 1);
            x.link(n(name), n("#".repeat(toLength)));
        }
        DUE.is("commit of links", x.commit() > 0, true);
    }

    private static void merging() {
        DUE.about("merging");
        RefStack x = new RefStack();
        links(x, 1, 0, 4, 11);
        DUE.is("26 bytes", x.size(0), 26);
        links(x, 1, 1, 1, 1);
        DUE.is("13 bytes on 26 are not merged", x.tables(), 2);
        DUE.is("13 bytes", x.size(1), 13);
        x = new RefStack();
        links(x, 1, 0, 4, 10);
        DUE.is("25 bytes", x.size(0), 25);
        links(x, 1, 1, 1, 1);
        DUE.is("13 bytes on 25 are merged", x.tables(), 1);
        DUE.sameBytes(x, 0, TableBytes.head(1, 2).varint(2)
                .link(0, "azzz", 0, "##########").link(0, "b", 1, "#").varint(0).checked());
        x = new RefStack();
        links(x, 2, 0, 12, 12);
        DUE.is("63 bytes", x.size(0), 63);
        links(x, 1, 3, 5, 10);
        DUE.is("26 bytes on 63", x.size(1), 26);
        links(x, 1, 5, 1, 1);
        DUE.is("13 bytes on 26 on 63", x.tables(), 3);
        links(x, 1, 6, 1, 1);
        DUE.is("13 more: all in one", x.tables(), 1);
        DUE.is("its records", x.records(0), 5);
    }

    private static void mergingAbove() {
        DUE.about("merging above table 0");
        RefStack x = new RefStack();
        links(x, 4, 0, 12, 12);
        DUE.is("a", set(x, "zz", 0), 2);
        DUE.is("tables", x.tables(), 2);
        DUE.is("b", set(x, "zz", 7), 3);
        DUE.is("tables", x.tables(), 2);
        DUE.sameBytes(x, 1, TableBytes.head(2, 3).varint(1).number(0, "zz", 1, 7)
                .varint(2).entry(0, "zz", 3, 0, 7).entry(2, "", 2, 0, 0).checked());
        DUE.is("c", set(x, "zy", 0), 4);
        DUE.is("tables", x.tables(), 2);
        DUE.sameBytes(x, 1, TableBytes.head(2, 4).varint(2).absent(0, "zy", 2).number(1, "z", 1, 7)
                .varint(3).entry(0, "zy", 4, 0, 0).entry(1, "z", 3, 0, 7).entry(2, "", 2, 0, 0).checked());
        DUE.is("absent ones stay above table 0", x.records(1), 2);
        DUE.is("compact", x.compact(), 2);
        DUE.is("and go with table 0", x.records(0), 5);
    }

    private static void fullOfNames() {
        DUE.about("16 names");
        RefStack x = new RefStack();
        for (int first = 0; first < 12; first += 6) {
            links(x, 6, first, 1, 1);
        }
        links(x, 4, 12, 1, 1);
        DUE.is("17th", set(x, "z", 1), RefStack.FULL);
        DUE.is("closed", x.abort(), RefStack.NONE);
        DUE.is("nothing done", x.get(n("z")), 0);
        DUE.is("17th absent", set(x, "z", 0), RefStack.FULL);
        DUE.is("one of the 16", set(x, "a", 1), 4);
        x.begin();
        x.update(n("b"), RefStack.NONE, 0);
        x.update(n("z"), RefStack.NONE, 1);
        DUE.is("one goes, but its record stays", x.commit(), RefStack.FULL);
        DUE.is("one goes", set(x, "b", 0), 5);
        x.compact();
        DUE.is("one comes", set(x, "z", 1), 6);
        x.begin();
        x.update(n("y"), 3, 1);
        DUE.is("refused rather than full", x.commit(), -101);
        x.begin();
        x.update(n("y"), 0, 1);
        x.update(n("y/x"), 0, 1);
        DUE.is("refused for reason 2 rather than full", x.commit(), -102);
    }

    private static void fullOfEntries() {
        DUE.about("24 entries");
        RefStack x = new RefStack();
        for (int i = 1; i <= 24; i++) {
            DUE.is("entry " + i, set(x, "a", i), i);
        }
        int tables = x.tables();
        DUE.is("entry 25", set(x, "a", 25), RefStack.FULL);
        DUE.is("nothing done", x.get(n("a")), 24);
        DUE.is("tables", x.tables(), tables);
        links(x, 1, 2, 1, 1);
        DUE.is("a link has no entry", x.target(n("c")), n("#"));
        DUE.is("expire", x.expire(3), 2);
        x.begin();
        x.update(n("a"), 24, 1);
        x.update(n("b"), 0, 1);
        x.update(n("d"), 0, 1);
        DUE.is("22 and 3", x.commit(), RefStack.FULL);
        x.begin();
        x.update(n("a"), 24, 1);
        x.update(n("b"), 0, 1);
        DUE.is("22 and 2", x.commit(), 26);
    }

    private static void fullOfTime() {
        DUE.about("time 2000");
        RefStack x = Craft.with(TableBytes.head(1, 1999).varint(1).number(0, "a", 0, 5).varint(0).checked());
        DUE.is("sound", x.sound(0), true);
        DUE.is("2000", set(x, "b", 1), 2000);
        DUE.is("2001", set(x, "c", 1), RefStack.FULL);
        DUE.is("closed", x.abort(), RefStack.NONE);
        DUE.is("get(c)", x.get(n("c")), 0);
        x.begin();
        DUE.is("without changes", x.commit(), 0);
        x.begin();
        x.update(n("c"), 1, 1);
        DUE.is("refused rather than full", x.commit(), -101);
        x = Craft.with(TableBytes.head(7, 9).varint(1).number(0, "a", 0, 300).varint(0).checked());
        DUE.is("the greatest HIGH and 1", set(x, "b", 1), 10);
    }

    private static void timeOfLowerTable() {
        DUE.about("the greatest HIGH in a lower table");
        RefStack x = new RefStack();
        links(x, 4, 0, 12, 12);
        links(x, 1, 6, 1, 1);
        DUE.is("tables", x.tables(), 2);
        int[] bytes = Craft.bytesOf(x, 0);
        bytes[2] = 90;
        Craft.overwrite(x, 0, TableBytes.checked(java.util.Arrays.copyOf(bytes, bytes.length - 2)));
        links(x, 1, 7, 1, 1);
        DUE.is("tables", x.tables(), 2);
        DUE.sameBytes(x, 1, TableBytes.head(2, 91).varint(2)
                .link(0, "g", 0, "#").link(0, "h", 89, "#").varint(0).checked());
    }

    private static void oldNumbers() {
        DUE.about("old numbers");
        RefStack x = new RefStack();
        set(x, "a", 5);
        set(x, "a", 5);
        x.begin();
        x.link(n("a"), n("b"));
        x.commit();
        set(x, "a", 7);
        set(x, "a", 0);
        set(x, "a", 0);
        int[][] log = {{6, 0, 0}, {5, 7, 0}, {4, 0, 7}, {2, 5, 5}, {1, 0, 5}};
        for (int i = 0; i < log.length; i++) {
            for (int what = 0; what < 3; what++) {
                DUE.is("log(a, " + i + ", " + what + ")", x.log(n("a"), i, what), log[i][what]);
            }
        }
        DUE.is("log(a, 5, 0)", x.log(n("a"), 5, 0), RefStack.NONE);
    }

    public static void main(String[] args) {
        closing();
        expectations();
        clashes();
        bytes();
        check();
        merging();
        mergingAbove();
        fullOfNames();
        fullOfEntries();
        fullOfTime();
        timeOfLowerTable();
        oldNumbers();
        DUE.end();
    }
}
