import java.util.Arrays;

/** Promise 5, commit: the table that it writes, and the merging then. */
public final class Promise05WritingTest {
    private static long n(String text) {
        return Name.of(text);
    }

    static void aSmallTableByteForByte(Due due) {
        RefStack x = Calls.having("a=5");
        due.sameBytes(x, 0, TableBytes.checked(
                new int[] {82, 1, 1, 1, 0, 5, 1, 0, 5, 1, 0, 1, 1, 1, 0, 5}));
        due.is("size", x.size(0), 18);
    }

    /** The check of the digits 1 to 9 is known to be 0x29B1; so the tests' own check is right. */
    static void theCheck(Due due) {
        int[] digits = TableBytes.checked(new int[] {49, 50, 51, 52, 53, 54, 55, 56, 57});
        due.is("the higher byte first", digits[9], 0x29);
        due.is("the lower byte", digits[10], 0xB1);
        due.is("of no bytes, higher", TableBytes.checked(new int[0])[0], 255);
        due.is("of no bytes, lower", TableBytes.checked(new int[0])[1], 255);
    }

    static void lowAndHighAreTheTime(Due due) {
        RefStack x = Edge.sixteenNames();
        due.is("commit", Calls.change(x, "a=5"), 4);
        due.is("LOW", x.byteAt(1, 1), 4);
        due.is("HIGH", x.byteAt(1, 2), 4);
        due.is("TIME - LOW", x.byteAt(1, 7), 0);
        due.is("TIME of the entry", x.byteAt(1, 13), 4);
    }

    static void aRecordForEachChange(Due due) {
        RefStack x = Calls.having("b=0", "c=7", "a>#");
        due.sameBytes(x, 0, TableBytes.head(1, 1).varint(3)
                .link(0, "a", 0, "#").absent(0, "b", 0).number(0, "c", 0, 7)
                .varint(2).entry(0, "b", 1, 0, 0).entry(0, "c", 1, 0, 7).checked());
        due.is("records", x.records(0), 3);
    }

    static void sixChangesInTheOrderOfNames(Due due) {
        RefStack x = Calls.having("heads/next=300", "head>heads/main", "heads/main=20000", "b=0",
                "heads/nexus=127", "c=128");
        due.sameBytes(x, 0, TableBytes.head(1, 1).varint(6)
                .absent(0, "b", 0).number(0, "c", 0, 128).link(0, "head", 0, "heads/main")
                .number(4, "s/main", 0, 20000)
                .number(0, "heads/next", 0, 300).number(9, "us", 0, 127)
                .varint(5)
                .entry(0, "b", 1, 0, 0).entry(0, "c", 1, 0, 128).entry(0, "heads/main", 1, 0, 20000)
                .entry(6, "next", 1, 0, 300)
                .entry(0, "heads/nexus", 1, 0, 127).checked());
    }

    static void namesOfTwelveSymbols(Due due) {
        RefStack x = Calls.having("abcdefghijkl>############", "abcdefghijkm>############");
        due.sameBytes(x, 0, TableBytes.head(1, 1).varint(2)
                .link(0, "abcdefghijkl", 0, "############").link(11, "m", 0, "############")
                .varint(0).checked());
    }

    static void sharedIsZeroInEveryFourthOne(Due due) {
        RefStack x = Calls.having("aa=1", "ab=2", "ac=3", "ad=4", "ae=5", "af=6");
        due.sameBytes(x, 0, TableBytes.head(1, 1).varint(6)
                .number(0, "aa", 0, 1).number(1, "b", 0, 2).number(1, "c", 0, 3).number(1, "d", 0, 4)
                .number(0, "ae", 0, 5).number(1, "f", 0, 6).varint(6)
                .entry(0, "aa", 1, 0, 1).entry(1, "b", 1, 0, 2).entry(1, "c", 1, 0, 3)
                .entry(1, "d", 1, 0, 4).entry(0, "ae", 1, 0, 5).entry(1, "f", 1, 0, 6).checked());
        due.is("commit", Calls.change(x, "ag>zzz", "ah>zzz", "ai>zzz", "aj>zzz"), 2);
        due.is("tables", x.tables(), 1);
        due.sameBytes(x, 0, TableBytes.head(1, 2).varint(10)
                .number(0, "aa", 0, 1).number(1, "b", 0, 2).number(1, "c", 0, 3).number(1, "d", 0, 4)
                .number(0, "ae", 0, 5).number(1, "f", 0, 6).link(1, "g", 1, "zzz")
                .link(1, "h", 1, "zzz")
                .link(0, "ai", 1, "zzz").link(1, "j", 1, "zzz").varint(6)
                .entry(0, "aa", 1, 0, 1).entry(1, "b", 1, 0, 2).entry(1, "c", 1, 0, 3)
                .entry(1, "d", 1, 0, 4).entry(0, "ae", 1, 0, 5).entry(1, "f", 1, 0, 6).checked());
    }

    static void numbersInOneTwoAndThreeBytes(Due due) {
        int[] numbers = {1, 127, 128, 255, 256, 16383, 16384, 65535};
        int[][] bytes = {{1}, {127}, {128, 1}, {255, 1}, {128, 2}, {255, 127}, {128, 128, 1},
            {255, 255, 3}};
        for (int i = 0; i < numbers.length; i++) {
            RefStack x = Calls.having("a=" + numbers[i]);
            due.sameBytes(x, 0, new TableBytes().raw(82, 1, 1, 1, 0, 5, 1, 0).raw(bytes[i])
                    .raw(1, 0, 1, 1, 1, 0).raw(bytes[i]).checked());
        }
    }

    static void theOldAndTheNewNumber(Due due) {
        RefStack x = Calls.having("a=5");
        Calls.change(x, "a=5");
        Calls.change(x, "a=65535");
        Calls.change(x, "a>b");
        Calls.change(x, "a=7");
        Calls.change(x, "a=0");
        Calls.change(x, "a=0");
        Calls.change(x, "a>b");
        Calls.change(x, "a=0");
        int[][] log = {{9, 0, 0}, {7, 0, 0}, {6, 7, 0}, {5, 0, 7}, {3, 5, 65535}, {2, 5, 5}, {1, 0, 5}};
        for (int i = 0; i < log.length; i++) {
            for (int what = 0; what < 3; what++) {
                due.is("log(a, " + i + ", " + what + ")", x.log(1, i, what), log[i][what]);
            }
        }
        due.is("no entry of a link", x.log(1, log.length, 0), RefStack.NONE);
    }

    static void timesInOneAndTwoBytes(Due due) {
        RefStack x = Craft.with(TableBytes.head(1, 126).varint(1).link(0, "abcdefghijkl", 0, "######")
                .varint(0).checked());
        due.is("29 bytes", x.size(0), 29);
        due.is("127", Calls.change(x, "z>#"), 127);
        due.sameBytes(x, 1, new TableBytes().raw(82, 127, 127, 1, 0, 6, 26, 0, 1, 31, 0).checked());
        x = Craft.with(TableBytes.head(1, 127).varint(1).link(0, "abcdefghijkl", 0, "#######")
                .varint(0).checked());
        due.is("30 bytes", x.size(0), 30);
        due.is("128", Calls.change(x, "z>#"), 128);
        due.sameBytes(x, 1, new TableBytes().raw(82, 128, 1, 128, 1, 1, 0, 6, 26, 0, 1, 31, 0).checked());
        x = Craft.with(TableBytes.head(1, 1999).varint(1).link(0, "abcdefghijkl", 0, "######")
                .varint(0).checked());
        due.is("30 bytes", x.size(0), 30);
        due.is("2000", Calls.change(x, "z>#"), 2000);
        due.sameBytes(x, 1, new TableBytes().raw(82, 208, 15, 208, 15, 1, 0, 6, 26, 0, 1, 31, 0).checked());
    }

    static void timesFarFromLow(Due due) {
        RefStack x = Craft.with(TableBytes.head(1, 127).varint(2).number(0, "a", 0, 5)
                .absent(0, "b", 126).varint(0).checked());
        due.is("128", Calls.change(x, "c>#"), 128);
        due.sameBytes(x, 0, TableBytes.head(1, 128).varint(2).number(0, "a", 0, 5)
                .link(0, "c", 127, "#").varint(0).checked());
        due.is("129", Calls.change(x, "a=6"), 129);
        due.sameBytes(x, 0, TableBytes.head(1, 129).varint(2).number(0, "a", 128, 6)
                .link(0, "c", 127, "#").varint(1).entry(0, "a", 129, 5, 6).checked());
    }

    static void timeIsTheGreatestHighOfAllTables(Due due) {
        RefStack x = Edge.sixteenNames();
        due.is("commit", Calls.change(x, "a>z"), 4);
        int[] bytes = Craft.bytesOf(x, 0);
        bytes[2] = 90;
        Craft.overwrite(x, 0, TableBytes.checked(Arrays.copyOf(bytes, bytes.length - 2)));
        due.is("one more than a lower table's", Calls.change(x, "b>z"), 91);
        due.is("tables", x.tables(), 2);
        due.sameBytes(x, 1, TableBytes.head(4, 91).varint(2)
                .link(0, "a", 0, "z").link(0, "b", 87, "z").varint(0).checked());
    }

    static void highAloneCountsNotTheTimes(Due due) {
        RefStack x = Craft.with(TableBytes.head(7, 9).varint(1).number(0, "a", 0, 300)
                .varint(0).checked());
        due.is("commit", Calls.change(x, "b=1"), 10);
    }

    static void notMergedWhenTheLowerHasTwiceAsMany(Due due) {
        RefStack x = Calls.having("azzz>###########");
        due.is("26 bytes", x.size(0), 26);
        due.is("commit", Calls.change(x, "b>#"), 2);
        due.is("tables", x.tables(), 2);
        due.is("13 bytes", x.size(1), 13);
        due.is("26 bytes still", x.size(0), 26);
    }

    static void mergedWhenTheLowerHasFewerThanTwiceAsMany(Due due) {
        RefStack x = Calls.having("azzz>##########");
        due.is("25 bytes", x.size(0), 25);
        due.is("commit", Calls.change(x, "b>#"), 2);
        due.is("tables", x.tables(), 1);
        due.sameBytes(x, 0, TableBytes.head(1, 2).varint(2)
                .link(0, "azzz", 0, "##########").link(0, "b", 1, "#").varint(0).checked());
    }

    /** A lowest table of so many bytes (72 to 96), on it 26 bytes and on those 13, and 13 more come. */
    private static RefStack merges(int lowest) {
        RefStack x = Calls.having("azzzzzzzzzzz>############", "bzzzzzzzzzzz>############",
                "czzz>" + "#".repeat(lowest - 71));
        Calls.must(x.size(0) == lowest);
        Calls.must(Calls.change(x, "dzzzz>##########") == 2);
        Calls.must(Calls.change(x, "e>#") == 3);
        Calls.must(x.tables() == 3 && x.size(1) == 26 && x.size(2) == 13);
        Calls.must(Calls.change(x, "f>#") == 4);
        return x;
    }

    static void mergedAsLongAsTheLowerHasFewer(Due due) {
        RefStack x = merges(75);
        due.is("75 bytes are fewer than twice 38", x.tables(), 1);
        due.is("75 + 19 + 6 + 6 bytes", x.size(0), 106);
        due.is("records", x.records(0), 6);
        due.is("LOW", x.byteAt(0, 1), 1);
        due.is("HIGH", x.byteAt(0, 2), 4);
    }

    static void mergedNoFurther(Due due) {
        RefStack x = merges(76);
        due.is("76 bytes are twice 38", x.tables(), 2);
        due.is("the lower one", x.size(0), 76);
        due.sameBytes(x, 1, TableBytes.head(2, 4).varint(3).link(0, "dzzzz", 0, "##########")
                .link(0, "e", 1, "#").link(0, "f", 2, "#").varint(0).checked());
    }

    static void oneTableAloneIsNotMerged(Due due) {
        RefStack x = Calls.having("a=0");
        due.is("its absent one stays", x.records(0), 1);
        due.sameBytes(x, 0, TableBytes.head(1, 1).varint(1).absent(0, "a", 0)
                .varint(1).entry(0, "a", 1, 0, 0).checked());
    }

    static void allSevenTablesAreMergedAtOnce(Due due) {
        SevenTables seven = new SevenTables(due);
        seven.commitThatMergesAll();
        due.is("tables", seven.x.tables(), 1);
        due.is("records", seven.x.records(0), 16);
        seven.compareAll();
    }

    static void mergingTakesTheHighestRecordWithItsTime(Due due) {
        RefStack x = Calls.having("a=1", "b=2", "c=3");
        due.is("commit", Calls.change(x, "b=20", "c>z"), 2);
        due.sameBytes(x, 0, TableBytes.head(1, 2).varint(3)
                .number(0, "a", 0, 1).number(0, "b", 1, 20).link(0, "c", 1, "z")
                .varint(4).entry(0, "a", 1, 0, 1).entry(0, "b", 2, 2, 20).entry(1, "", 1, 0, 2)
                .entry(0, "c", 1, 0, 3).checked());
    }

    static void mergingAboveTable0KeepsAbsentOnes(Due due) {
        RefStack x = Edge.sixteenNames();
        due.is("4", Calls.change(x, "a=0"), 4);
        due.is("5", Calls.change(x, "b=0"), 5);
        due.is("tables", x.tables(), 2);
        due.sameBytes(x, 1, TableBytes.head(4, 5).varint(2).absent(0, "a", 0).absent(0, "b", 1)
                .varint(2).entry(0, "a", 4, 0, 0).entry(0, "b", 5, 0, 0).checked());
        due.is("6", Calls.change(x, "a=7"), 6);
        due.sameBytes(x, 1, TableBytes.head(4, 6).varint(2).number(0, "a", 2, 7).absent(0, "b", 1)
                .varint(3).entry(0, "a", 6, 0, 7).entry(1, "", 4, 0, 0).entry(0, "b", 5, 0, 0).checked());
    }

    static void mergingWithTable0LeavesAbsentOnesOut(Due due) {
        RefStack x = Calls.having("a=1", "b=2", "d=0");
        due.is("commit", Calls.change(x, "b=0", "c=0"), 2);
        due.sameBytes(x, 0, TableBytes.head(1, 2).varint(1).number(0, "a", 0, 1)
                .varint(5).entry(0, "a", 1, 0, 1).entry(0, "b", 2, 2, 0).entry(1, "", 1, 0, 2)
                .entry(0, "c", 2, 0, 0).entry(0, "d", 1, 0, 0).checked());
    }

    static void mergingKeepsFiveEntriesOfOneName(Due due) {
        RefStack x = new RefStack();
        for (int i = 1; i <= 5; i++) {
            due.is("commit", Calls.change(x, "ab=" + i), i);
        }
        x.compact();
        due.sameBytes(x, 0, TableBytes.head(1, 5).varint(1).number(0, "ab", 4, 5)
                .varint(5).entry(0, "ab", 5, 4, 5).entry(2, "", 4, 3, 4).entry(2, "", 3, 2, 3)
                .entry(2, "", 2, 1, 2).entry(0, "ab", 1, 0, 1).checked());
    }

    static void whatWasReadBeforeIsNotMerged(Due due) {
        RefStack x = Calls.having("a=1", "b=2", "bzzzzzzzzzzz>############", "czzzzzzzzzzz>############");
        Calls.change(x, "dzzzz>##########");
        Calls.change(x, "e>#");
        due.is("tables", x.tables(), 3);
        due.is("an entry that is not the last one", x.log(n("a"), 0, 0), 1);
        due.is("a name that is not the last one", x.scan(0, 0), n("a"));
        due.is("commit", Calls.change(x, "f>#"), 4);
        due.is("tables then", x.tables(), 2);
        due.sameBytes(x, 1, TableBytes.head(2, 4).varint(3).link(0, "dzzzz", 0, "##########")
                .link(0, "e", 1, "#").link(0, "f", 2, "#").varint(0).checked());
        due.is("log", x.log(n("b"), 0, 2), 2);
    }

    static void ofEqualTimesTheHigherEntryAloneIsKept(Due due) {
        int[] lower = TableBytes.head(1, 9).varint(1).number(0, "a", 0, 7).varint(3)
                .entry(0, "a", 8, 80, 81).entry(1, "", 5, 50, 51).entry(1, "", 1, 10, 11).checked();
        int[] higher = TableBytes.head(5, 5).varint(0).varint(1).entry(0, "a", 5, 3, 4).checked();
        RefStack x = Craft.with(lower, higher);
        due.is("commit", Calls.change(x, "z>#"), 10);
        due.is("tables", x.tables(), 1);
        due.sameBytes(x, 0, TableBytes.head(1, 10).varint(2)
                .number(0, "a", 0, 7).link(0, "z", 9, "#").varint(3)
                .entry(0, "a", 8, 80, 81).entry(1, "", 5, 3, 4).entry(1, "", 1, 10, 11).checked());
    }

    static void sizesOfOneByteMore(Due due) {
        RefStack x = Calls.having("a>#");
        due.is("13 bytes", x.size(0), 13);
        x = Calls.having("a>##");
        due.is("14 bytes", x.size(0), 14);
        x = Calls.having("ab>##");
        due.is("15 bytes", x.size(0), 15);
        due.is("target", x.target(n("ab")), n("##"));
    }

    public static void main(String[] args) {
        Due.runAll(Promise05WritingTest.class);
    }
}
