/** Promise 12: compact. */
public final class Promise12CompactTest {
    private static long n(String text) {
        return Name.of(text);
    }

    static void zeroWithoutTables(Due due) {
        RefStack x = new RefStack();
        due.is("compact", x.compact(), 0);
        due.is("and again", x.compact(), 0);
        due.is("tables", x.tables(), 0);
        due.is("the first time", Calls.change(x, "a=1"), 1);
    }

    static void howManyTablesThereWere(Due due) {
        RefStack x = Calls.twoTables();
        due.is("two", x.compact(), 2);
        due.is("one then", x.tables(), 1);
        due.is("one", x.compact(), 1);
        due.is("one still", x.tables(), 1);
        x = Calls.having("azzzzzzzzzzz>############", "bzzzzzzzzzzz>############", "czzz>#####");
        Calls.change(x, "dzzzz>##########");
        Calls.change(x, "e>#");
        due.is("three", x.compact(), 3);
        due.is("records", x.records(0), 5);
    }

    static void allOfSevenTables(Due due) {
        SevenTables seven = new SevenTables(due);
        due.is("compact", seven.x.compact(), 7);
        due.is("the model", seven.model.compact(), 7);
        due.is("tables", seven.x.tables(), 1);
        due.is("records", seven.x.records(0), 16);
        seven.compareAll();
    }

    static void theHighestRecordsAndAllEntries(Due due) {
        RefStack x = Calls.having("heads/main=1", "heads/next=2", "tags/one=300", "head>heads/main");
        Calls.change(x, "go=0");
        Calls.change(x, "tags/one=0");
        due.is("compact", x.compact(), 2);
        due.sameBytes(x, 0, TableBytes.head(1, 3).varint(3)
                .link(0, "head", 0, "heads/main").number(4, "s/main", 0, 1).number(6, "next", 0, 2)
                .varint(5).entry(0, "go", 2, 0, 0).entry(0, "heads/main", 1, 0, 1)
                .entry(6, "next", 1, 0, 2).entry(0, "tags/one", 3, 300, 0)
                .entry(0, "tags/one", 1, 0, 300).checked());
    }

    static void alsoOneAlone(Due due) {
        RefStack x = Calls.having("a=0", "b=5");
        due.is("an absent one", x.records(0), 2);
        due.is("compact", x.compact(), 1);
        int[] bytes = TableBytes.head(1, 1).varint(1).number(0, "b", 0, 5)
                .varint(2).entry(0, "a", 1, 0, 0).entry(0, "b", 1, 0, 5).checked();
        due.sameBytes(x, 0, bytes);
        due.is("compact again", x.compact(), 1);
        due.sameBytes(x, 0, bytes);
    }

    static void allRecordsAbsent(Due due) {
        RefStack x = Calls.having("a=0");
        due.is("compact", x.compact(), 1);
        due.sameBytes(x, 0, TableBytes.head(1, 1).varint(0)
                .varint(1).entry(0, "a", 1, 0, 0).checked());
        due.is("records", x.records(0), 0);
        due.is("sound", x.sound(0), true);
        due.is("the next time", Calls.change(x, "a=1"), 2);
    }

    static void theLeastLowAndTheGreatestHigh(Due due) {
        int[] lower = TableBytes.head(20, 90).varint(2).number(0, "b", 0, 1).link(0, "c", 70, "##########")
                .varint(0).checked();
        int[] higher = TableBytes.head(3, 60).varint(1).link(0, "a", 0, "#").varint(0).checked();
        RefStack x = Craft.with(lower, higher);
        due.is("compact", x.compact(), 2);
        due.sameBytes(x, 0, TableBytes.head(3, 90).varint(3).link(0, "a", 0, "#").number(0, "b", 17, 1)
                .link(0, "c", 87, "##########").varint(0).checked());
        lower = TableBytes.head(30, 40).varint(2).number(0, "b", 0, 1).link(0, "c", 10, "##########")
                .varint(0).checked();
        higher = TableBytes.head(50, 60).varint(1).link(0, "a", 10, "#").varint(0).checked();
        x = Craft.with(lower, higher);
        due.is("compact", x.compact(), 2);
        due.sameBytes(x, 0, TableBytes.head(30, 60).varint(3).link(0, "a", 30, "#").number(0, "b", 0, 1)
                .link(0, "c", 10, "##########").varint(0).checked());
    }

    static void ofEqualTimesTheHigherEntryAloneIsKept(Due due) {
        int[] lower = TableBytes.head(1, 9).varint(1).number(0, "a", 0, 7).varint(3)
                .entry(0, "a", 8, 80, 81).entry(1, "", 5, 50, 51).entry(1, "", 1, 10, 11).checked();
        int[] higher = TableBytes.head(5, 5).varint(0).varint(1).entry(0, "a", 5, 3, 4).checked();
        RefStack x = Craft.with(lower, higher);
        due.is("compact", x.compact(), 2);
        due.sameBytes(x, 0, TableBytes.head(1, 9).varint(1).number(0, "a", 0, 7).varint(3)
                .entry(0, "a", 8, 80, 81).entry(1, "", 5, 3, 4).entry(1, "", 1, 10, 11).checked());
    }

    static void entriesOfEqualTimesButOtherNamesStay(Due due) {
        int[] lower = TableBytes.head(1, 9).varint(1).number(0, "a", 0, 7).varint(3)
                .entry(0, "a", 8, 80, 81).entry(1, "", 5, 50, 51).entry(1, "", 1, 10, 11).checked();
        int[] higher = TableBytes.head(5, 5).varint(0).varint(1).entry(0, "b", 5, 3, 4).checked();
        RefStack x = Craft.with(lower, higher);
        due.is("compact", x.compact(), 2);
        due.is("log(a, 1)", x.log(n("a"), 1, 2), 51);
        due.is("log(b, 0)", x.log(n("b"), 0, 2), 4);
    }

    static void thirtyRecordsButNot31(Due due) {
        RefStack x = Edge.thirtyRecordsAnd("c", 700);
        due.is("30 names", x.compact(), 2);
        due.is("records", x.records(0), 30);
        due.is("get(c)", x.get(n("c")), 700);
        due.is("get(#b)", x.get(n("#b")), 30);
        x = Edge.thirtyRecordsAnd("cc", 700);
        due.is("31 names", x.compact(), RefStack.FULL);
        due.is("tables", x.tables(), 2);
        due.is("records", x.records(0), 30);
        due.is("get(cc)", x.get(n("cc")), 700);
    }

    static void anAbsentOneIsNoRecordThen(Due due) {
        RefStack x = Edge.thirtyRecordsAnd("cc", 0);
        due.is("31 names, one absent", x.compact(), 2);
        due.is("records", x.records(0), 30);
        x = Edge.thirtyRecordsAnd("c", 0);
        due.is("30 names, one absent", x.compact(), 2);
        due.is("records", x.records(0), 29);
    }

    static void fortyEntriesButNot41(Due due) {
        RefStack x = Craft.with(Edge.entries(40));
        due.is("40", x.compact(), 1);
        due.is("the last one", x.log(n("j"), 3, 0), 5);
        x = Edge.fortyEntriesAnd("d", 4);
        due.is("41", x.compact(), RefStack.FULL);
        due.is("tables", x.tables(), 2);
        due.is("the 41st", x.log(n("d"), 4, 2), 101);
        x = Edge.fortyEntriesAnd("d", 7);
        due.is("41, two of one time", x.compact(), 2);
        due.is("the higher one", x.log(n("d"), 1, 2), 101);
        due.is("the one behind it", x.log(n("d"), 2, 0), 6);
    }

    static void farTooMuchForOneTable(Due due) {
        RefStack x = Edge.thirtyAnd24Records();
        due.is("54 records", x.compact(), RefStack.FULL);
        due.is("tables", x.tables(), 2);
        due.is("records(0)", x.records(0), 30);
        due.is("records(1)", x.records(1), 24);
        x = Edge.fortyAnd26Entries();
        due.is("66 entries", x.compact(), RefStack.FULL);
        due.is("tables", x.tables(), 2);
        due.is("the last entry", x.log(1, 65, 0), 2);
    }

    static void twelveHundredBytesButNot1201(Due due) {
        RefStack x = Edge.bytesInAll(1199);
        int tables = x.tables();
        due.is("1199", x.compact(), tables);
        due.is("size", x.size(0), 1199);
        x = Edge.bytesInAll(1200);
        tables = x.tables();
        due.is("1200", x.compact(), tables);
        due.is("tables", x.tables(), 1);
        due.is("size", x.size(0), 1200);
        due.is("records", x.records(0), 30);
        due.is("sound", x.sound(0), true);
        x = Edge.bytesInAll(1201);
        tables = x.tables();
        due.is("1201", x.compact(), RefStack.FULL);
        due.is("tables", x.tables(), tables);
        due.is("sound", x.sound(0), true);
        due.is("the first name", x.target(Edge.longName(0)), n("############"));
        due.is("all names", x.scan(0, 29), Edge.longName(15));
    }

    static void fullChangesNothing(Due due) {
        RefStack x = Edge.thirtyRecordsAnd("cc", 700);
        Calls.open(x, "a=1");
        int lower = x.size(0);
        int higher = x.size(1);
        due.is("compact", x.compact(), RefStack.FULL);
        due.is("compact again", x.compact(), RefStack.FULL);
        due.is("size(0)", x.size(0), lower);
        due.is("size(1)", x.size(1), higher);
        due.is("sound", x.sound(0) && x.sound(1), true);
        due.is("log(cc)", x.log(n("cc"), 0, 2), 700);
        due.is("scan the last", x.scan(0, 30), n("#b"));
        due.is("the transaction is open", x.abort(), 1);
    }

    static void damagedAndNothingChanges(Due due) {
        for (int table = 0; table < 2; table++) {
            RefStack x = Calls.twoTables();
            x.damage(table, 4, 255);
            String before = Calls.shown(x);
            due.is("compact", x.compact(), RefStack.DAMAGED);
            due.same("after it", Calls.shown(x), before);
            x.damage(table, 4, 0);
            due.is("mended", x.compact(), 2);
        }
    }

    static void damagedRatherThanFull(Due due) {
        RefStack x = Edge.thirtyRecordsAnd("cc", 700);
        x.damage(1, 0, 0);
        due.is("compact", x.compact(), RefStack.DAMAGED);
    }

    static void anOpenTransactionStaysAsItIs(Due due) {
        RefStack x = Calls.twoTables();
        Calls.open(x, "b?5=6", "c>b");
        due.is("compact", x.compact(), 2);
        due.is("begin", x.begin(), false);
        due.is("commit", x.commit(), 3);
        due.is("get", x.get(n("b")), 6);
        due.is("target", x.target(n("c")), n("b"));
    }

    static void whatReferencesHaveStays(Due due) {
        RefStack x = Edge.sixteenNames();
        Calls.change(x, "a=1", "b=0");
        due.is("compact", x.compact(), 2);
        due.is("get(a)", x.get(n("a")), 1);
        due.is("get(b)", x.get(n("b")), 0);
        due.is("target(c)", x.target(n("c")), n("#"));
        due.is("scan(0, 14)", x.scan(0, 14), n("p"));
        due.is("log(b)", x.log(n("b"), 0, 0), 4);
        due.is("the next time", Calls.change(x, "b=1"), 5);
    }

    public static void main(String[] args) {
        Due.runAll(Promise12CompactTest.class);
    }
}
