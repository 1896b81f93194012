import java.util.Arrays;

/** Promise 18: sound, and so which tables are well formed. */
public final class Promise18SoundTest {
    private static void sound(Due due, String text, int[] bytes, boolean want) {
        RefStack x = Craft.with(bytes);
        due.is(text, x.sound(0), want);
        due.is(text + ": get", x.get(Name.of("q")), want ? 0 : RefStack.DAMAGED);
        due.is(text + ": records", x.records(0) >= 0, want);
    }

    private static void yes(Due due, String text, TableBytes bytes) {
        sound(due, text, bytes.checked(), true);
    }

    private static void no(Due due, String text, TableBytes bytes) {
        sound(due, text, bytes.checked(), false);
    }

    private static TableBytes raw(int... bytes) {
        return new TableBytes().raw(bytes);
    }

    /** Behind a head: one record, no entries. */
    private static TableBytes oneRecord(TableBytes head) {
        return head.varint(1).link(0, "aaa", 0, "bbb").varint(0);
    }

    private static TableBytes records(int count) {
        return TableBytes.head(5, 9).varint(count);
    }

    private static TableBytes entries(int count) {
        return TableBytes.head(5, 9).varint(0).varint(count);
    }

    /** A table with all there can be in one; its varints are written to what is given. */
    private static TableBytes full(TableBytes out) {
        return out.raw(82).varint(5).varint(9).varint(3)
                .absent(0, "ab", 4).number(2, "c", 0, 300).link(0, "b", 1, "zz").varint(2)
                .entry(0, "a", 9, 7, 8).entry(1, "", 8, 6, 7);
    }

    static void falseWhenThereIsNone(Due due) {
        due.is("without tables", new RefStack().sound(0), false);
        RefStack x = Calls.twoTables();
        for (int table : new int[] {2, 3, 7, 8, 9, 10, 100, -1, -2, Integer.MIN_VALUE, Integer.MAX_VALUE}) {
            due.is("sound(" + table + ")", x.sound(table), false);
        }
        due.is("sound(0)", x.sound(0), true);
        due.is("sound(1)", x.sound(1), true);
        x.compact();
        due.is("one that was", x.sound(1), false);
    }

    static void falseChangesNothing(Due due) {
        RefStack x = Calls.twoTables();
        String before = Calls.shown(x);
        Calls.open(x, "a=1");
        due.is("sound(2)", x.sound(2), false);
        due.same("after it", Calls.shown(x), before);
        due.is("the transaction is open", x.abort(), 1);
    }

    static void oneTableIsAnotherIsNot(Due due) {
        RefStack x = Calls.twoTables();
        x.damage(0, 0, 0);
        due.is("sound(0)", x.sound(0), false);
        due.is("sound(1)", x.sound(1), true);
        x.damage(0, 0, 82);
        x.damage(1, 0, 0);
        due.is("sound(0)", x.sound(0), true);
        due.is("sound(1)", x.sound(1), false);
    }

    static void whatIsWrittenIsWellFormed(Due due) {
        RefStack x = Edge.twentyFourEntries();
        for (int table = 0; table < x.tables(); table++) {
            due.is("after commits", x.sound(table), true);
        }
        x.expire(5);
        due.is("after expire", x.sound(0), true);
        x = Edge.bytesInAll(1200);
        x.compact();
        due.is("the largest table", x.sound(0), true);
    }

    static void firstByte82(Due due) {
        yes(due, "82", oneRecord(raw(82, 1, 1)));
        no(due, "81", oneRecord(raw(81, 1, 1)));
        no(due, "83", oneRecord(raw(83, 1, 1)));
        no(due, "0", oneRecord(raw(0, 1, 1)));
        no(due, "82 + 128", oneRecord(raw(210, 1, 1)));
    }

    static void lowIsAtLeast1(Due due) {
        no(due, "0", oneRecord(raw(82, 0, 1)));
        yes(due, "1", oneRecord(raw(82, 1, 1)));
        no(due, "both 0", oneRecord(raw(82, 0, 0)));
    }

    static void lowIsNotAboveHigh(Due due) {
        yes(due, "below", oneRecord(raw(82, 2, 3)));
        yes(due, "the same", oneRecord(raw(82, 3, 3)));
        no(due, "above", oneRecord(raw(82, 3, 2)));
        no(due, "HIGH 0", oneRecord(raw(82, 1, 0)));
        no(due, "far above", oneRecord(TableBytes.head(2000, 1999)));
    }

    static void highIsAtMost2000(Due due) {
        yes(due, "LOW and HIGH 2000", oneRecord(TableBytes.head(2000, 2000)));
        yes(due, "HIGH 2000", oneRecord(TableBytes.head(1, 2000)));
        no(due, "HIGH 2001", oneRecord(TableBytes.head(1, 2001)));
        no(due, "LOW and HIGH 2001", oneRecord(TableBytes.head(2001, 2001)));
        no(due, "HIGH 2097151", oneRecord(TableBytes.head(1, 2097151)));
    }

    static void countIsThatOfTheRecords(Due due) {
        yes(due, "just", raw(82, 1, 1, 1).link(0, "aaa", 0, "bbb").varint(0));
        no(due, "one more", raw(82, 1, 1, 2).link(0, "aaa", 0, "bbb").varint(0));
        no(due, "one less", raw(82, 1, 1, 0).link(0, "aaa", 0, "bbb").varint(0));
    }

    static void countIsAtMost30(Due due) {
        yes(due, "29", manyRecords(29).varint(0));
        yes(due, "30", manyRecords(30).varint(0));
        no(due, "31", manyRecords(31).varint(0));
        no(due, "2097151", raw(82, 1, 1).varint(2097151).link(0, "aaa", 0, "bbb").varint(0));
    }

    /** Names of two symbols: twenty that begin with a, and then those that begin with b. */
    private static TableBytes manyRecords(int count) {
        TableBytes out = records(count);
        for (int i = 0; i < count; i++) {
            String name = (i < 20 ? "a" : "b") + (char) ('a' + i % 20);
            boolean whole = i % 4 == 0 || i == 20;
            out.absent(whole ? 0 : 1, whole ? name : name.substring(1), 0);
        }
        return out;
    }

    static void logsIsThatOfTheEntries(Due due) {
        yes(due, "just", entries(1).entry(0, "a", 5, 0, 0));
        no(due, "one more", entries(2).entry(0, "a", 5, 0, 0));
        no(due, "one less", entries(0).entry(0, "a", 5, 0, 0));
        no(due, "none there", raw(82, 1, 1, 1).link(0, "aaa", 0, "bbb"));
    }

    static void logsIsAtMost40(Due due) {
        yes(due, "39", manyEntries(39));
        yes(due, "40", manyEntries(40));
        no(due, "41", manyEntries(41));
        no(due, "2097151", entries(2097151).entry(0, "a", 5, 0, 0));
    }

    private static TableBytes manyEntries(int count) {
        TableBytes out = entries(count);
        for (int i = 0; i < count; i++) {
            String name = String.valueOf((char) ('a' + i / 2));
            boolean whole = i % 2 == 0;
            out.entry(whole ? 0 : 1, whole ? name : "", whole ? 9 : 8, 0, 1);
        }
        return out;
    }

    static void nothingElseIsThere(Due due) {
        yes(due, "just", full(new TableBytes()));
        for (int b : new int[] {0, 1, 82, 128, 255}) {
            no(due, "one byte more", full(new TableBytes()).raw(b));
            no(due, "two bytes more", full(new TableBytes()).raw(b, b));
        }
    }

    static void nothingIsMissing(Due due) {
        int[] bytes = full(new TableBytes()).checked();
        for (int length = 11; length < bytes.length - 2; length++) {
            sound(due, "the first " + length + " bytes",
                    TableBytes.checked(Arrays.copyOf(bytes, length)), false);
        }
    }

    static void theSmallestTable(Due due) {
        RefStack x = Calls.having("a=0");
        due.is("expire", x.expire(2), 1);
        due.is("sound", x.sound(0), true);
        int[][] bodies = {{82, 3, 4, 0, 0}, {82, 3, 4, 0, 1}, {82, 3, 4, 1, 0}, {82, 3, 200, 1, 0},
            {82, 128, 128, 128, 128}, {255, 255, 255, 255, 255}, {0, 0, 0, 0, 0}, {82, 127, 127, 0, 0}};
        boolean[] want = {true, false, false, false, false, false, false, true};
        for (int i = 0; i < bodies.length; i++) {
            Craft.overwrite(x, 0, TableBytes.checked(bodies[i]));
            due.is("body " + i, x.sound(0), want[i]);
        }
        due.is("the next time", Calls.change(x, "a=1"), 128);
    }

    static void theCheckIsRight(Due due) {
        int[] bytes = oneRecord(raw(82, 1, 1)).checked();
        int last = bytes.length - 1;
        for (int bit = 0; bit < 8; bit++) {
            int[] other = bytes.clone();
            other[last] ^= 1 << bit;
            sound(due, "the lower byte", other, false);
            other = bytes.clone();
            other[last - 1] ^= 1 << bit;
            sound(due, "the higher byte", other, false);
        }
    }

    static void theHigherByteOfTheCheckFirst(Due due) {
        int[] bytes = oneRecord(raw(82, 1, 1)).checked();
        int last = bytes.length - 1;
        due.is("both differ", bytes[last] != bytes[last - 1], true);
        int[] other = bytes.clone();
        other[last] = bytes[last - 1];
        other[last - 1] = bytes[last];
        sound(due, "the other way round", other, false);
    }

    static void theLastByteOfAVarintIsNot0(Due due) {
        TableBytes right = full(new TableBytes());
        yes(due, "as it should be", right);
        due.is("varints", right.varints(), 25);
        for (int which = 0; which < right.varints(); which++) {
            no(due, "a byte more in varint " + which, full(new TableBytes().spoil(which, 0)));
            no(due, "two bytes more in varint " + which, full(new TableBytes().spoil(which, 128, 0)));
        }
    }

    static void aVarintHasAtMostThreeBytes(Due due) {
        yes(due, "number in three", records(1).raw(0, 9, 1, 1, 0, 255, 255, 3).varint(0));
        no(due, "number in four", records(1).raw(0, 9, 1, 1, 0, 255, 255, 131, 1).varint(0));
        no(due, "number in five", records(1).raw(0, 9, 1, 1, 0, 129, 128, 128, 128, 16).varint(0));
        no(due, "LOW in four", oneRecord(raw(82, 129, 128, 128, 1, 5)));
        no(due, "LOW in five", oneRecord(raw(82, 129, 128, 128, 128, 16, 5)));
        yes(due, "OLD in three", entries(1).raw(0, 1, 1, 5, 255, 255, 3, 0));
        no(due, "OLD in four", entries(1).raw(0, 1, 1, 5, 129, 128, 128, 1, 0));
        for (int which = 0; which < 25; which++) {
            no(due, "three and 128, varint " + which, full(new TableBytes().spoil(which, 128, 128)));
            no(due, "two and 128, varint " + which, full(new TableBytes().spoil(which, 128)));
            no(due, "four, varint " + which, full(new TableBytes().spoil(which, 128, 128, 0)));
            no(due, "four and not 0, varint " + which, full(new TableBytes().spoil(which, 128, 128, 1)));
        }
        no(due, "no end", raw(82, 128, 128, 128, 128, 128, 128, 128, 128, 128, 128, 128, 128));
        no(due, "all bytes are 255", raw(255, 255, 255, 255, 255, 255, 255, 255, 255, 255, 255, 255));
    }

    static void recordKinds(Due due) {
        yes(due, "0, 1 and 2",
                records(3).absent(0, "a", 4).number(1, "b", 0, 65535).link(2, "c", 2, "a").varint(0));
        no(due, "3", records(2).absent(0, "a", 0).raw(0, 7, 2, 0, 1).varint(0));
        no(due, "3 with nothing more", records(2).absent(0, "abc", 0).raw(0, 7, 2, 0).varint(0));
        no(due, "3 with a name", records(2).absent(0, "a", 0).raw(0, 7, 2, 0, 1, 1).varint(0));
    }

    static void recordTimeIsLowToHigh(Due due) {
        yes(due, "LOW", records(2).absent(0, "a", 0).absent(0, "b", 0).varint(0));
        yes(due, "HIGH", records(2).absent(0, "a", 4).absent(0, "b", 0).varint(0));
        no(due, "one above HIGH", records(2).absent(0, "a", 5).absent(0, "b", 0).varint(0));
        no(due, "far above HIGH", records(1).absent(0, "ab", 2097151).varint(0));
        yes(due, "2000", TableBytes.head(1, 2000).varint(1).absent(0, "abc", 1999).varint(0));
        no(due, "2001", TableBytes.head(1, 2000).varint(1).absent(0, "abc", 2000).varint(0));
    }

    static void recordNumberIs1To65535(Due due) {
        no(due, "0", records(1).number(0, "aaaa", 0, 0).varint(0));
        yes(due, "1", records(1).number(0, "aaaa", 0, 1).varint(0));
        yes(due, "65535", records(1).number(0, "aa", 0, 65535).varint(0));
        no(due, "65536", records(1).number(0, "aa", 0, 65536).varint(0));
        no(due, "65537", records(1).number(0, "aa", 0, 65537).varint(0));
        no(due, "2097151", records(1).number(0, "aa", 0, 2097151).varint(0));
    }

    static void recordNameHas1To12Symbols(Due due) {
        no(due, "0", records(1).link(0, "", 0, "abcdef").varint(0));
        yes(due, "1", records(1).link(0, "a", 0, "abcdef").varint(0));
        yes(due, "12", records(1).absent(0, "abcdefghijkl", 0).varint(0));
        no(due, "13", records(1).absent(0, "abcdefghijklm", 0).varint(0));
        yes(due, "12 with shared ones",
                records(2).absent(0, "abcdef", 0).absent(6, "ghijkl", 0).varint(0));
        no(due, "13 with shared ones",
                records(2).absent(0, "abcdef", 0).absent(6, "ghijklm", 0).varint(0));
        no(due, "13, the first twelve shared",
                records(2).absent(0, "abcdefghijkl", 0).absent(12, "m", 0).varint(0));
    }

    static void recordNamesAreGood(Due due) {
        for (String text : Name.GOOD) {
            yes(due, text, records(1).link(0, text, 0, "abcdef").varint(0));
        }
        for (String text : Name.BAD_TEXTS) {
            no(due, text, records(1).link(0, text, 0, "abcdef").varint(0));
        }
        no(due, "bad by what is shared", records(2).absent(0, "a/b", 0).absent(2, "/", 0).varint(0));
        yes(due, "good by what is shared", records(2).absent(0, "a/b", 0).absent(2, "!", 0).varint(0));
    }

    static void recordSymbolsAre1To31(Due due) {
        yes(due, "31", records(1).raw(0, 16, 1, 2, 31, 4, 0).varint(0));
        for (int symbol : new int[] {0, 32, 33, 64, 128, 129, 160, 255}) {
            no(due, "between: " + symbol, records(1).raw(0, 16, 1, 2, symbol, 4, 0).varint(0));
            no(due, "last: " + symbol, records(1).raw(0, 16, 1, 2, 3, symbol, 0).varint(0));
            no(due, "first: " + symbol, records(1).raw(0, 16, symbol, 2, 3, 4, 0).varint(0));
        }
    }

    static void recordNamesRiseStrictly(Due due) {
        yes(due, "rising", records(2).absent(0, "ab", 0).absent(1, "c", 0).varint(0));
        no(due, "falling", records(2).absent(0, "ac", 0).absent(1, "b", 0).varint(0));
        no(due, "equal, n is 0", records(2).absent(0, "ab", 0).absent(2, "", 0).varint(0));
        no(due, "equal, shared too few", records(2).absent(0, "ab", 0).absent(1, "b", 0).varint(0));
        no(due, "equal, whole", records(2).absent(0, "ab", 0).absent(0, "ab", 0).varint(0));
        no(due, "a beginning of it", records(2).absent(0, "abc", 0).absent(1, "", 0).varint(0));
        yes(due, "going on longer", records(2).absent(0, "ab", 0).absent(2, "a", 0).varint(0));
        yes(due, "a stroke is above letters", records(2).absent(0, "az", 0).absent(1, "/b", 0).varint(0));
        no(due, "and not below them", records(2).absent(0, "a/b", 0).absent(1, "z", 0).varint(0));
        yes(due, "31 is above all", records(2).absent(0, "a@", 0).absent(1, "#", 0).varint(0));
    }

    static void recordSharesAllSymbolsThatAreAlike(Due due) {
        yes(due, "all", records(2).absent(0, "abc", 0).absent(2, "d", 0).varint(0));
        no(due, "one less", records(2).absent(0, "abc", 0).absent(1, "bd", 0).varint(0));
        no(due, "none", records(2).absent(0, "abc", 0).absent(0, "abd", 0).varint(0));
        no(due, "one more", records(2).absent(0, "abc", 0).absent(3, "", 0).varint(0));
        no(due, "more than there are", records(2).absent(0, "abc", 0).absent(4, "d", 0).varint(0));
        no(due, "many more", records(2).absent(0, "abc", 0).absent(2097151, "d", 0).varint(0));
        yes(due, "eleven", records(2).absent(0, "abcdefghijkl", 0).absent(11, "m", 0).varint(0));
    }

    /** Four records of a table with more. */
    private static TableBytes fourRecordsOf(int count) {
        return records(count).absent(0, "a", 0).absent(1, "b", 0).absent(2, "c", 0).absent(3, "d", 0);
    }

    static void recordsShareNothingInEveryFourthOne(Due due) {
        no(due, "0 shares", records(1).absent(1, "abcdef", 0).varint(0));
        yes(due, "4 is whole", fourRecordsOf(5).absent(0, "abcde", 0).varint(0));
        no(due, "4 shares", fourRecordsOf(5).absent(4, "e", 0).varint(0));
        yes(due, "5 shares", fourRecordsOf(6).absent(0, "abcde", 0).absent(5, "f", 0).varint(0));
        no(due, "5 is whole", fourRecordsOf(6).absent(0, "abcde", 0).absent(0, "abcdef", 0).varint(0));
        no(due, "4 falls", fourRecordsOf(5).absent(0, "abca", 0).varint(0));
        no(due, "4 is equal", fourRecordsOf(5).absent(0, "abcd", 0).varint(0));
        yes(due, "8 is whole", eightRecordsOf9().absent(0, "ai", 0).varint(0));
        no(due, "8 shares", eightRecordsOf9().absent(1, "i", 0).varint(0));
    }

    private static TableBytes eightRecordsOf9() {
        return records(9).absent(0, "aa", 0).absent(1, "b", 0).absent(1, "c", 0).absent(1, "d", 0)
                .absent(0, "ae", 0).absent(1, "f", 0).absent(1, "g", 0).absent(1, "h", 0);
    }

    static void linksAreGood(Due due) {
        for (String text : Name.GOOD) {
            yes(due, text, records(1).link(0, "abcdef", 0, text).varint(0));
        }
        for (String text : Name.BAD_TEXTS) {
            no(due, text, records(1).link(0, "abcdef", 0, text).varint(0));
        }
        yes(due, "also to itself", records(1).link(0, "ab", 0, "ab").varint(0));
    }

    static void linksHave1To12Symbols(Due due) {
        no(due, "0", records(2).link(0, "a", 0, "").absent(0, "b", 0).varint(0));
        yes(due, "1", records(2).link(0, "a", 0, "b").absent(0, "b", 0).varint(0));
        yes(due, "12", records(1).link(0, "a", 0, "abcdefghijkl").varint(0));
        no(due, "13", records(1).link(0, "a", 0, "abcdefghijklm").varint(0));
        no(due, "2097151", records(1).raw(0, 6, 1, 0).varint(2097151).raw(1, 1, 1, 1).varint(0));
        for (int symbol : new int[] {0, 32, 33, 128, 255}) {
            no(due, "symbol " + symbol, records(1).raw(0, 6, 1, 0, 2, 1, symbol).varint(0));
        }
    }

    static void entryTimeIsLowToHigh(Due due) {
        no(due, "below LOW", entries(1).entry(0, "a", 4, 0, 0));
        yes(due, "LOW", entries(1).entry(0, "a", 5, 0, 0));
        yes(due, "HIGH", entries(1).entry(0, "a", 9, 0, 0));
        no(due, "above HIGH", entries(1).entry(0, "a", 10, 0, 0));
        no(due, "0", entries(1).entry(0, "a", 0, 0, 0));
        yes(due, "2000", TableBytes.head(1, 2000).varint(0).varint(1).entry(0, "a", 2000, 0, 0));
        no(due, "2001", TableBytes.head(1, 2000).varint(0).varint(1).entry(0, "a", 2001, 0, 0));
    }

    static void entryNumbersAre0To65535(Due due) {
        yes(due, "0", entries(1).entry(0, "a", 5, 0, 0));
        yes(due, "65535", entries(1).entry(0, "a", 5, 65535, 65535));
        no(due, "OLD 65536", entries(1).entry(0, "a", 5, 65536, 0));
        no(due, "NEW 65536", entries(1).entry(0, "a", 5, 0, 65536));
        no(due, "OLD 2097151", entries(1).entry(0, "a", 5, 2097151, 0));
        no(due, "NEW 2097151", entries(1).entry(0, "a", 5, 0, 2097151));
    }

    static void entryNamesAreGood(Due due) {
        for (String text : Name.GOOD) {
            yes(due, text, entries(1).entry(0, text, 5, 300, 300));
        }
        for (String text : Name.BAD_TEXTS) {
            no(due, text, entries(1).entry(0, text, 5, 300, 300));
        }
        no(due, "none", entries(2).entry(0, "", 5, 0, 0).entry(0, "a", 5, 0, 0));
        no(due, "bad by what is shared", entries(2).entry(0, "a/b", 5, 0, 0).entry(2, "/", 5, 0, 0));
    }

    static void entryNamesHave1To12Symbols(Due due) {
        yes(due, "1", entries(1).entry(0, "a", 5, 0, 0));
        yes(due, "12", entries(1).entry(0, "abcdefghijkl", 5, 0, 0));
        no(due, "13", entries(1).entry(0, "abcdefghijklm", 5, 0, 0));
        no(due, "13 with shared ones",
                entries(2).entry(0, "abcdefghijkl", 5, 0, 0).entry(12, "m", 5, 0, 0));
        for (int symbol : new int[] {0, 32, 33, 128, 255}) {
            no(due, "symbol " + symbol, entries(1).raw(0, 2, 1, symbol, 5, 0, 0));
        }
    }

    static void entryNamesRise(Due due) {
        yes(due, "rising", entries(2).entry(0, "a", 5, 0, 0).entry(0, "b", 9, 0, 0));
        no(due, "falling", entries(2).entry(0, "b", 9, 0, 0).entry(0, "a", 5, 0, 0));
        no(due, "a beginning of it", entries(2).entry(0, "abc", 7, 0, 0).entry(2, "", 6, 0, 0));
        yes(due, "going on longer", entries(2).entry(0, "abc", 7, 0, 0).entry(3, "d", 8, 0, 0));
    }

    static void equalEntryNamesHaveFallingTimes(Due due) {
        yes(due, "falling", entries(2).entry(0, "abc", 7, 0, 0).entry(3, "", 6, 0, 0));
        yes(due, "falling far", entries(2).entry(0, "abc", 9, 0, 0).entry(3, "", 5, 0, 0));
        no(due, "the same", entries(2).entry(0, "abc", 7, 0, 0).entry(3, "", 7, 0, 0));
        no(due, "rising", entries(2).entry(0, "abc", 7, 0, 0).entry(3, "", 8, 0, 0));
        yes(due, "rising, another name", entries(2).entry(0, "abc", 7, 0, 0).entry(2, "d", 8, 0, 0));
        yes(due, "the same, another name", entries(2).entry(0, "abc", 7, 0, 0).entry(2, "d", 7, 0, 0));
    }

    static void entrySharesAllSymbolsThatAreAlike(Due due) {
        yes(due, "all", entries(2).entry(0, "abc", 5, 0, 0).entry(2, "d", 5, 0, 0));
        no(due, "one less", entries(2).entry(0, "abc", 5, 0, 0).entry(1, "bd", 5, 0, 0));
        no(due, "more than there are", entries(2).entry(0, "abc", 5, 0, 0).entry(4, "d", 5, 0, 0));
        no(due, "equal, n is not 0", entries(2).entry(0, "abc", 7, 0, 0).entry(2, "c", 6, 0, 0));
        no(due, "equal, whole", entries(2).entry(0, "abc", 7, 0, 0).entry(0, "abc", 6, 0, 0));
    }

    /** Four entries of a table with more. */
    private static TableBytes fourEntriesOf(int count) {
        return entries(count).entry(0, "ab", 9, 0, 1).entry(2, "", 8, 0, 1)
                .entry(2, "", 7, 0, 1).entry(2, "", 6, 0, 1);
    }

    static void entriesShareNothingInEveryFourthOne(Due due) {
        no(due, "0 shares", entries(1).entry(1, "ab", 5, 0, 0));
        yes(due, "4 is whole", fourEntriesOf(5).entry(0, "ab", 5, 0, 1));
        no(due, "4 shares", fourEntriesOf(5).entry(2, "", 5, 0, 1));
        no(due, "4 has the same time", fourEntriesOf(5).entry(0, "ab", 6, 0, 1));
        no(due, "4 falls", fourEntriesOf(5).entry(0, "aa", 5, 0, 1));
        yes(due, "5 shares", fourEntriesOf(6).entry(0, "ab", 5, 0, 1).entry(1, "c", 5, 0, 1));
        no(due, "5 is whole", fourEntriesOf(6).entry(0, "ab", 5, 0, 1).entry(0, "ac", 5, 0, 1));
    }

    static void entriesAndRecordsAreApart(Due due) {
        yes(due, "the first entry does not share with a record",
                records(1).absent(0, "abc", 0).varint(1).entry(0, "abd", 5, 0, 0));
        no(due, "it may not", records(1).absent(0, "abc", 0).varint(1).entry(2, "d", 5, 0, 0));
        yes(due, "it need not come behind one",
                records(1).absent(0, "abc", 0).varint(1).entry(0, "abb", 5, 0, 0));
        yes(due, "its name may be that of one",
                records(1).absent(0, "abc", 0).varint(1).entry(0, "abc", 5, 0, 0));
    }

    /** Every byte of a table becomes every other one, with the check that is due then. */
    static void asTheModelSaysOfEveryByte(Due due) {
        int[] body = full(new TableBytes()).checked();
        int sound = 0;
        for (int k = 0; k < body.length - 2; k++) {
            for (int b = 0; b < 256; b++) {
                int[] other = Arrays.copyOf(body, body.length - 2);
                other[k] = b;
                other = TableBytes.checked(other);
                boolean want = Model.read(other) != null;
                due.is("byte " + k + " is " + b, Craft.with(other).sound(0), want);
                sound += want ? 1 : 0;
            }
        }
        due.is("some are well formed", sound > 300, true);
    }

    public static void main(String[] args) {
        Due.runAll(Promise18SoundTest.class);
    }
}
