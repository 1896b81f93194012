/** Promise 13: expire. */
public final class Promise13ExpireTest {
    private static final int LEAST = Integer.MIN_VALUE;
    private static final int GREATEST = Integer.MAX_VALUE;

    private static long n(String text) {
        return Name.of(text);
    }

    /** Five entries at the times 1 to 5, of the names a (1, 3, 5) and b (2, 4). */
    private static RefStack fiveEntries() {
        RefStack x = Calls.having("a=1");
        Calls.change(x, "b=2");
        Calls.change(x, "a=3");
        Calls.change(x, "b=4");
        Calls.change(x, "a=5");
        return x;
    }

    static void zeroWithoutTables(Due due) {
        RefStack x = new RefStack();
        for (int time : new int[] {LEAST, -1, 0, 1, 2000, 2001, GREATEST}) {
            due.is("expire(" + time + ")", x.expire(time), 0);
        }
        due.is("tables", x.tables(), 0);
    }

    static void entriesWithALesserTimeGo(Due due) {
        for (int time = 0; time <= 7; time++) {
            RefStack x = fiveEntries();
            int less = Math.min(5, Math.max(0, time - 1));
            due.is("expire(" + time + ")", x.expire(time), less);
            int left = 0;
            for (String name : new String[] {"a", "b"}) {
                for (int i = 0; i < 5 && x.log(n(name), i, 0) != RefStack.NONE; i++) {
                    due.is("not less", x.log(n(name), i, 0) >= time, true);
                    left++;
                }
            }
            due.is("left", left, 5 - less);
        }
    }

    static void anEntryOfJustThisTimeStays(Due due) {
        RefStack x = fiveEntries();
        due.is("expire(3)", x.expire(3), 2);
        due.is("log(a, 1)", x.log(n("a"), 1, 0), 3);
        due.is("log(a, 2)", x.log(n("a"), 2, 0), RefStack.NONE);
        due.is("log(b, 0)", x.log(n("b"), 0, 0), 4);
        due.is("log(b, 1)", x.log(n("b"), 1, 0), RefStack.NONE);
        due.is("expire(3) again", x.expire(3), 0);
    }

    static void leastAndGreatestTimes(Due due) {
        due.is("least", fiveEntries().expire(LEAST), 0);
        due.is("-1", fiveEntries().expire(-1), 0);
        due.is("0", fiveEntries().expire(0), 0);
        due.is("1", fiveEntries().expire(1), 0);
        due.is("2", fiveEntries().expire(2), 1);
        due.is("5", fiveEntries().expire(5), 4);
        due.is("6", fiveEntries().expire(6), 5);
        due.is("2000", fiveEntries().expire(2000), 5);
        due.is("2001", fiveEntries().expire(2001), 5);
        due.is("greatest", fiveEntries().expire(GREATEST), 5);
    }

    static void theLatestTimeOfAll(Due due) {
        int[] bytes = TableBytes.head(1, 2000).varint(0).varint(3)
                .entry(0, "a", 2000, 1, 2).entry(1, "", 1999, 3, 4).entry(1, "", 1, 5, 6).checked();
        due.is("1999", Craft.with(bytes).expire(1999), 1);
        due.is("2000", Craft.with(bytes).expire(2000), 2);
        due.is("2001", Craft.with(bytes).expire(2001), 3);
    }

    static void theRestIsAsCompact(Due due) {
        RefStack x = Calls.having("heads/main=1", "heads/next=2", "tags/one=300", "head>heads/main");
        Calls.change(x, "go=0");
        Calls.change(x, "tags/one=0");
        due.is("tables", x.tables(), 2);
        due.is("expire", x.expire(2), 3);
        due.is("tables then", x.tables(), 1);
        due.sameBytes(x, 0, TableBytes.head(1, 3).varint(3)
                .link(0, "head", 0, "heads/main").number(4, "s/main", 0, 1).number(6, "next", 0, 2)
                .varint(2).entry(0, "go", 2, 0, 0).entry(0, "tags/one", 3, 300, 0).checked());
    }

    static void mergedAlsoWhenNoEntryGoes(Due due) {
        RefStack x = Calls.twoTables();
        due.is("expire", x.expire(0), 0);
        due.is("tables", x.tables(), 1);
        x = Calls.having("a=0");
        due.is("one table alone", x.expire(0), 0);
        due.is("its absent one is gone", x.records(0), 0);
    }

    static void lowAndHighStay(Due due) {
        RefStack x = Calls.having("a=0");
        due.is("expire", x.expire(2), 1);
        due.sameBytes(x, 0, TableBytes.head(1, 1).varint(0).varint(0).checked());
        x = fiveEntries();
        due.is("expire", x.expire(GREATEST), 5);
        due.sameBytes(x, 0, TableBytes.head(1, 5).varint(2).number(0, "a", 4, 5).number(0, "b", 3, 4)
                .varint(0).checked());
        due.is("the next time", Calls.change(x, "a=6"), 6);
    }

    static void whatReferencesHaveStays(Due due) {
        RefStack x = fiveEntries();
        due.is("expire", x.expire(GREATEST), 5);
        due.is("get(a)", x.get(n("a")), 5);
        due.is("get(b)", x.get(n("b")), 4);
        due.is("log(a)", x.log(n("a"), 0, 0), RefStack.NONE);
        due.is("again", x.expire(GREATEST), 0);
    }

    static void allOfSevenTables(Due due) {
        SevenTables seven = new SevenTables(due);
        due.is("expire", seven.x.expire(8), seven.model.expire(8));
        due.is("tables", seven.x.tables(), 1);
        seven.compareAll();
    }

    static void anEntryDroppedForItsEqualTimeIsOneLess(Due due) {
        RefStack x = Edge.fortyEntriesAnd("d", 7);
        due.is("expire(0)", x.expire(0), 1);
        due.is("the higher one stays", x.log(n("d"), 1, 2), 101);
        x = Edge.fortyEntriesAnd("d", 7);
        due.is("expire(6)", x.expire(6), 11);
        x = Edge.fortyEntriesAnd("d", 7);
        due.is("expire(9)", x.expire(9), 41);
    }

    static void thirtyRecordsButNot31(Due due) {
        RefStack x = Edge.thirtyRecordsAnd("c", 700);
        due.is("30 names", x.expire(3), 1);
        due.is("records", x.records(0), 30);
        x = Edge.thirtyRecordsAnd("cc", 700);
        due.is("31 names", x.expire(3), RefStack.FULL);
        due.is("31 names, no entry goes", x.expire(0), RefStack.FULL);
        due.is("tables", x.tables(), 2);
        due.is("the entry is there", x.log(n("cc"), 0, 2), 700);
        x = Edge.thirtyRecordsAnd("cc", 0);
        due.is("31 names, one absent", x.expire(3), 1);
        due.is("records", x.records(0), 30);
    }

    static void fortyEntriesButNot41(Due due) {
        RefStack x = Edge.fortyEntriesAnd("d", 4);
        due.is("41 stay", x.expire(4), RefStack.FULL);
        due.is("tables", x.tables(), 2);
        due.is("the 41st", x.log(n("d"), 4, 2), 101);
        due.is("40 stay", x.expire(5), 1);
        due.is("tables", x.tables(), 1);
        due.is("log(d, 3)", x.log(n("d"), 3, 0), 5);
        due.is("log(d, 4)", x.log(n("d"), 4, 0), RefStack.NONE);
    }

    static void fortyOf66EntriesStay(Due due) {
        RefStack x = Edge.fortyAnd26Entries();
        due.is("66 stay", x.expire(0), RefStack.FULL);
        due.is("41 stay", x.expire(40), RefStack.FULL);
        due.is("tables", x.tables(), 2);
        due.is("the last of 66", x.log(1, 65, 0), 2);
        due.is("40 stay", x.expire(41), 26);
        due.is("tables", x.tables(), 1);
        due.is("the last of 40", x.log(1, 39, 0), 41);
        due.is("none behind it", x.log(1, 40, 0), RefStack.NONE);
    }

    static void twelveHundredBytesButNot1201(Due due) {
        RefStack x = Edge.bytesInAll(1200);
        due.is("1200", x.expire(1), 0);
        due.is("size", x.size(0), 1200);
        x = Edge.bytesInAll(1201);
        int tables = x.tables();
        due.is("1201", x.expire(1), RefStack.FULL);
        due.is("tables", x.tables(), tables);
        due.is("an entry is there", x.log(Edge.longName(5), 0, 0), 4);
        due.is("less by six entries", x.expire(2), 6);
        due.is("tables", x.tables(), 1);
        due.is("records", x.records(0), 30);
    }

    static void damagedAndNothingChanges(Due due) {
        for (int table = 0; table < 2; table++) {
            RefStack x = Calls.twoTables();
            x.damage(table, 4, 255);
            String before = Calls.shown(x);
            for (int time : new int[] {LEAST, 0, 3, GREATEST}) {
                due.is("expire(" + time + ")", x.expire(time), RefStack.DAMAGED);
            }
            due.same("after it", Calls.shown(x), before);
            x.damage(table, 4, 0);
            due.is("mended", x.expire(3), 1);
        }
    }

    static void damagedRatherThanFull(Due due) {
        RefStack x = Edge.thirtyRecordsAnd("cc", 700);
        x.damage(0, 0, 0);
        due.is("expire", x.expire(3), RefStack.DAMAGED);
    }

    static void anOpenTransactionStaysAsItIs(Due due) {
        RefStack x = Calls.twoTables();
        Calls.open(x, "b?5=6", "c>b");
        due.is("expire", x.expire(3), 1);
        due.is("begin", x.begin(), false);
        due.is("commit", x.commit(), 3);
        due.is("get", x.get(n("b")), 6);
        due.is("log", x.log(n("b"), 0, 1), 5);
    }

    static void roomForMoreEntries(Due due) {
        RefStack x = Edge.twentyFourEntries();
        due.is("full", Calls.change(x, "a=25"), RefStack.FULL);
        due.is("none goes", x.expire(1), 0);
        due.is("full still", Calls.change(x, "a=25"), RefStack.FULL);
        due.is("one goes", x.expire(2), 1);
        due.is("one comes", Calls.change(x, "a=25"), 25);
        due.is("full again", Calls.change(x, "a=26"), RefStack.FULL);
    }

    public static void main(String[] args) {
        Due.runAll(Promise13ExpireTest.class);
    }
}
