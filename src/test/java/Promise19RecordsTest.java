/** Promise 19: records. */
public final class Promise19RecordsTest {
    private static final int[] NO_TABLES = {2, 3, 7, 8, 9, 10, 100, -1, -2, Integer.MIN_VALUE, Integer.MAX_VALUE};

    static void theRecordsOfATable(Due due) {
        RefStack x = Calls.twoTables();
        due.is("records(0)", x.records(0), 2);
        due.is("records(1)", x.records(1), 1);
        due.is("six", Calls.having("a=1", "b=0", "c>a", "d=1", "e=1", "f=1").records(0), 6);
    }

    static void absentOnesAreRecordsToo(Due due) {
        RefStack x = Calls.having("a=0", "b=0");
        due.is("written", x.records(0), 2);
        x.compact();
        due.is("merged", x.records(0), 0);
    }

    static void entriesAreNoRecords(Due due) {
        RefStack x = Edge.twentyFourEntries();
        x.compact();
        due.is("24 entries, one record", x.records(0), 1);
        due.is("40 entries, no record", Craft.with(Edge.entries(40)).records(0), 0);
    }

    static void zeroToThirty(Due due) {
        for (int count : new int[] {2, 16, 17, 29, 30}) {
            due.is("records", Craft.with(Edge.numbers(count)).records(0), count);
        }
        due.is("31 are too many", Craft.with(Edge.numbers(31)).records(0), RefStack.NONE);
        RefStack x = Calls.having("a=0");
        x.expire(2);
        due.is("none in the smallest table", x.records(0), 0);
    }

    static void noneWhenThereIsNone(Due due) {
        due.is("without tables", new RefStack().records(0), RefStack.NONE);
        RefStack x = Calls.twoTables();
        for (int table : NO_TABLES) {
            due.is("records(" + table + ")", x.records(table), RefStack.NONE);
        }
        x.compact();
        due.is("one that was", x.records(1), RefStack.NONE);
    }

    static void noneWhenItIsNotWellFormed(Due due) {
        RefStack x = Calls.twoTables();
        x.damage(1, 17, x.byteAt(1, 17) ^ 1);
        due.is("its check", x.records(1), RefStack.NONE);
        due.is("the other table", x.records(0), 2);
        x.damage(0, 3, 1);
        due.is("its COUNT", x.records(0), RefStack.NONE);
        x.damage(0, 3, 2);
        due.is("mended", x.records(0), 2);
        due.is("not mended", x.records(1), RefStack.NONE);
    }

    static void noneChangesNothing(Due due) {
        RefStack x = Calls.twoTables();
        String before = Calls.shown(x);
        Calls.open(x, "a=1");
        for (int table : NO_TABLES) {
            x.records(table);
        }
        due.same("after it", Calls.shown(x), before);
        due.is("the transaction is open", x.abort(), 1);
    }

    public static void main(String[] args) {
        Due.runAll(Promise19RecordsTest.class);
    }
}
