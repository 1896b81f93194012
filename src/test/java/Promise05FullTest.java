/** Promise 5, commit: when it is FULL, and that nothing is changed then. */
public final class Promise05FullTest {
    private static long n(String text) {
        return Name.of(text);
    }

    /** A commit that is FULL changes nothing but that the transaction is closed. */
    private static void isFull(Due due, RefStack x, String... changes) {
        int tables = x.tables();
        int size = x.size(tables - 1);
        int last = x.byteAt(tables - 1, size - 1);
        due.is("commit", Calls.change(x, changes), RefStack.FULL);
        due.is("closed", x.abort(), RefStack.NONE);
        due.is("tables", x.tables(), tables);
        due.is("size", x.size(tables - 1), size);
        due.is("size of one more", x.size(tables), RefStack.NONE);
        due.is("last byte", x.byteAt(tables - 1, size - 1), last);
        due.is("sound", x.sound(tables - 1), true);
    }

    static void sixteenNamesButNotSeventeen(Due due) {
        RefStack x = Edge.sixteenNames();
        due.is("records", x.records(0), 16);
        isFull(due, x, "q>#");
        isFull(due, x, "q=5");
        due.is("get", x.get(n("q")), 0);
        due.is("scan the last", x.scan(0, 15), n("p"));
        due.is("scan one more", x.scan(0, 16), 0);
        due.is("log", x.log(n("q"), 0, 0), RefStack.NONE);
    }

    static void sixteenNamesByOneCommit(Due due) {
        RefStack x = new RefStack();
        Calls.change(x, "a>#", "b>#", "c>#", "d>#", "e>#", "f>#");
        Calls.change(x, "g>#", "h>#", "i>#", "j>#", "k>#");
        isFull(due, x, "l>#", "m>#", "n>#", "o>#", "p>#", "q>#");
        due.is("none of the six", x.scan(0, 11), 0);
        due.is("five", Calls.change(x, "l>#", "m>#", "n>#", "o>#", "p>#"), 3);
        due.is("the last", x.scan(0, 15), n("p"));
    }

    static void aNameInSeveralTablesIsOneName(Due due) {
        RefStack x = Edge.sixteenNames();
        due.is("one", Calls.change(x, "a>z"), 4);
        due.is("tables", x.tables(), 2);
        due.is("another one", Calls.change(x, "p>z"), 5);
        due.is("six", Calls.change(x, "a=1", "b=1", "c=1", "d=1", "e=1", "f=1"), 6);
    }

    static void anAbsentOneIsANameToo(Due due) {
        RefStack x = Edge.sixteenNames();
        isFull(due, x, "q=0");
        isFull(due, x, "a=0", "q=1");
        due.is("one goes", Calls.change(x, "a=0"), 4);
        due.is("tables", x.tables(), 2);
        isFull(due, x, "q=1");
        due.is("compact", x.compact(), 2);
        due.is("its record is gone", x.records(0), 15);
        due.is("its entry is not", x.log(n("a"), 0, 0), 4);
        due.is("a name with entries alone does not count", Calls.change(x, "q=1"), 5);
        isFull(due, x, "r=1");
    }

    static void absentByAMergeWithTable0(Due due) {
        RefStack x = Edge.sixteenNames();
        due.is("all six go", Calls.change(x, "a=0", "b=0", "c=0", "d=0", "e=0", "f=0"), 4);
        due.is("tables", x.tables(), 1);
        due.is("records", x.records(0), 10);
        due.is("six come", Calls.change(x, "u=1", "v=1", "w=1", "x=1", "y=1", "z=1"), 5);
    }

    static void twentyFourEntriesButNotTwentyFive(Due due) {
        RefStack x = Edge.twentyFourEntries();
        isFull(due, x, "a=25");
        isFull(due, x, "a=0");
        due.is("get", x.get(1), 24);
        due.is("log: the latest", x.log(1, 0, 0), 24);
        due.is("log: the first", x.log(1, 23, 0), 1);
        due.is("log: none before it", x.log(1, 24, 0), RefStack.NONE);
    }

    static void twentyFourEntriesByOneCommit(Due due) {
        RefStack x = Edge.twentyFourEntries();
        due.is("expire", x.expire(6), 5);
        isFull(due, x, "a=1", "b=1", "c=1", "d=1", "e=1", "f=1");
        due.is("five", Calls.change(x, "a=1", "b=1", "c=1", "d=1", "e=1"), 25);
        isFull(due, x, "a=2");
    }

    static void aLinkHasNoEntry(Due due) {
        RefStack x = Edge.twentyFourEntries();
        due.is("a link", Calls.change(x, "a>b"), 25);
        due.is("six", Calls.change(x, "a>b", "b>a", "c>a", "d>a", "e>a", "f>a"), 26);
        isFull(due, x, "a>c", "g=0");
    }

    static void entriesOfAllTablesCount(Due due) {
        RefStack x = Edge.sixteenNames();
        for (int i = 1; i <= 24; i++) {
            due.is("entry " + i, Calls.change(x, i % 2 == 0 ? "a=1" : "b=1"), 3 + i);
        }
        isFull(due, x, "a=2");
        due.is("compact", x.compact() > 0, true);
        isFull(due, x, "a=2");
        due.is("expire", x.expire(5), 1);
        due.is("one", Calls.change(x, "a=2"), 28);
    }

    static void time2000ButNot2001(Due due) {
        RefStack x = Craft.with(TableBytes.head(1, 1999).varint(1).number(0, "a", 0, 5).varint(0).checked());
        due.is("2000", Calls.change(x, "b=1"), 2000);
        due.is("sound", x.sound(0), true);
        isFull(due, x, "c=1");
        isFull(due, x, "a>b");
        due.is("get(c)", x.get(n("c")), 0);
        due.is("get(a)", x.get(n("a")), 5);
        due.is("log(b)", x.log(n("b"), 0, 0), 2000);
        due.is("compact", x.compact(), 1);
        isFull(due, x, "c=1");
    }

    /** A lower table with this HIGH, and a higher one with a lesser one. */
    private static RefStack lowerTableOf(int high) {
        int[] lower = TableBytes.head(1, high).varint(1).link(0, "abcdefghijkl", 0, "bbbbbb")
                .varint(0).checked();
        return Craft.with(lower, TableBytes.head(2, 2).varint(1).link(0, "z", 0, "#").varint(0).checked());
    }

    static void time2000OfALowerTable(Due due) {
        due.is("2000", Calls.change(lowerTableOf(1999), "c>#"), 2000);
        isFull(due, lowerTableOf(2000), "c>#");
    }

    static void refusedRatherThanFull(Due due) {
        RefStack x = Edge.sixteenNames();
        due.is("17 names, reason 1", Calls.change(x, "q?1=1"), -101);
        due.is("17 names, reason 2", Calls.change(x, "a/b=1"), -102);
        x = Edge.twentyFourEntries();
        due.is("25 entries, reason 1", Calls.change(x, "a?23=1"), -101);
        due.is("25 entries, reason 2", Calls.change(x, "b=1", "a/b=1"), -202);
        x = Craft.with(TableBytes.head(1, 2000).varint(1).number(0, "a", 0, 5).varint(0).checked());
        due.is("time 2001, reason 1", Calls.change(x, "a?4=1"), -101);
        due.is("time 2001, reason 2", Calls.change(x, "a/b=1"), -102);
        due.is("time 2001, none", Calls.change(x, "a?5=1"), RefStack.FULL);
    }

    static void sixteenNamesAfterDamage(Due due) {
        RefStack x = Craft.with(Edge.numbers(16));
        due.is("one of them", Calls.change(x, "a=7"), 2);
        due.is("get", x.get(1), 7);
        x = Craft.with(Edge.numbers(17));
        isFull(due, x, "a=7");
        isFull(due, x, "a>b");
        isFull(due, x, "a=0");
    }

    static void twentyFourEntriesAfterDamage(Due due) {
        RefStack x = Craft.with(Edge.entries(23));
        due.is("24", Calls.change(x, "a=7"), 10);
        x = Craft.with(Edge.entries(24));
        isFull(due, x, "a=7");
        due.is("a link", Calls.change(x, "a>b"), 10);
        x = Craft.with(Edge.entries(25));
        isFull(due, x, "a=7");
        isFull(due, x, "a>b");
    }

    static void entriesOfOneTimeCountEachAfterDamage(Due due) {
        // Two tables with an entry of one name and one time each: a merge would keep one alone.
        RefStack x = Craft.with(Edge.entries(24),
                TableBytes.head(1, 9).varint(0).varint(1).entry(0, "a", 8, 3, 4).checked());
        isFull(due, x, "z>y");
        due.is("expire", x.expire(0), 1);
        due.is("a link", Calls.change(x, "z>y"), 10);
    }

    static void whatOneTableCanNotHoldAfterDamage(Due due) {
        RefStack x = Edge.thirtyRecordsAnd("cc", 700);
        isFull(due, x, "cc=1");
        x = Edge.fortyEntriesAnd("d", 4);
        isFull(due, x, "z>#");
        x = Edge.bytesInAll(1201);
        x.begin();
        x.link(Edge.longName(0), 1);
        due.is("1201 bytes", x.commit(), RefStack.FULL);
    }

    public static void main(String[] args) {
        Due.runAll(Promise05FullTest.class);
    }
}
