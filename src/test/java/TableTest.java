/** Promises 14 to 19: tables, size, byteAt, damage, sound and records; what well formed tables are. */
public final class TableTest {
    private static final Due DUE = new Due();
    private static final int LEAST = Integer.MIN_VALUE;
    private static final int GREATEST = Integer.MAX_VALUE;

    private static long n(String text) {
        return Name.of(text);
    }

    /** Two tables: one of 63 bytes with two links, and one of 17 bytes with an absent one. */
    private static RefStack twoTables() {
        RefStack x = new RefStack();
        x.begin();
        x.link(n("abcdefghijkl"), n("############"));
        x.link(n("bbcdefghijkl"), n("############"));
        x.commit();
        x.begin();
        x.update(n("c"), 0, 0);
        x.commit();
        return x;
    }

    private static void counts() {
        DUE.about("promises 14, 15 and 19");
        RefStack x = new RefStack();
        DUE.is("tables", x.tables(), 0);
        DUE.is("size(0)", x.size(0), RefStack.NONE);
        DUE.is("records(0)", x.records(0), RefStack.NONE);
        DUE.is("sound(0)", x.sound(0), false);
        DUE.is("byteAt(0, 0)", x.byteAt(0, 0), RefStack.NONE);
        DUE.is("damage(0, 0, 0)", x.damage(0, 0, 0), false);
        x = twoTables();
        DUE.is("tables", x.tables(), 2);
        DUE.is("size(0)", x.size(0), 63);
        DUE.is("size(1)", x.size(1), 17);
        DUE.is("records(0)", x.records(0), 2);
        DUE.is("records(1)", x.records(1), 1);
        int[] none = {2, 3, 9, 10, 100, -1, LEAST, GREATEST};
        for (int table : none) {
            DUE.is("size(" + table + ")", x.size(table), RefStack.NONE);
            DUE.is("records(" + table + ")", x.records(table), RefStack.NONE);
            DUE.is("sound(" + table + ")", x.sound(table), false);
            DUE.is("byteAt(" + table + ", 0)", x.byteAt(table, 0), RefStack.NONE);
            DUE.is("damage(" + table + ", 0, 0)", x.damage(table, 0, 0), false);
        }
        x.damage(1, 3, 2);
        DUE.is("records(1), damaged", x.records(1), RefStack.NONE);
        DUE.is("records(0), the other one damaged", x.records(0), 2);
        DUE.is("size(1), damaged", x.size(1), 17);
        DUE.is("tables, damaged", x.tables(), 2);
    }

    private static void bytes() {
        DUE.about("promise 16");
        RefStack x = twoTables();
        int[] want = TableBytes.head(2, 2).varint(1).absent(0, "c", 0)
                .varint(1).entry(0, "c", 2, 0, 0).checked();
        for (int k = 0; k < want.length; k++) {
            DUE.is("byteAt(1, " + k + ")", x.byteAt(1, k), want[k]);
        }
        DUE.is("byteAt(1, 17)", x.byteAt(1, 17), RefStack.NONE);
        DUE.is("byteAt(0, 62)", x.byteAt(0, 62) >= 0, true);
        DUE.is("byteAt(0, 63)", x.byteAt(0, 63), RefStack.NONE);
        int[] none = {-1, 63, 1199, 1200, 1201, LEAST, GREATEST};
        for (int k : none) {
            DUE.is("byteAt(0, " + k + ")", x.byteAt(0, k), RefStack.NONE);
        }
    }

    private static void damage() {
        DUE.about("promise 17");
        RefStack x = twoTables();
        DUE.is("b = -1", x.damage(0, 0, -1), false);
        DUE.is("b = 256", x.damage(0, 0, 256), false);
        DUE.is("b = 256 + 82", x.damage(0, 0, 338), false);
        DUE.is("b least", x.damage(0, 0, LEAST), false);
        DUE.is("k = -1", x.damage(0, -1, 0), false);
        DUE.is("k = 63", x.damage(0, 63, 0), false);
        DUE.is("k = 17 in table 1", x.damage(1, 17, 0), false);
        DUE.is("k least", x.damage(0, LEAST, 0), false);
        DUE.is("k greatest", x.damage(0, GREATEST, 0), false);
        DUE.is("nothing changed", x.byteAt(0, 0), 82);
        DUE.is("sound still", x.sound(0) && x.sound(1), true);
        DUE.is("the same byte", x.damage(0, 0, 82), true);
        DUE.is("sound still", x.sound(0), true);
        DUE.is("b = 0", x.damage(0, 0, 0), true);
        DUE.is("byteAt", x.byteAt(0, 0), 0);
        DUE.is("b = 255", x.damage(0, 0, 255), true);
        DUE.is("byteAt", x.byteAt(0, 0), 255);
        DUE.is("sound no more", x.sound(0), false);
        DUE.is("table 1 is", x.sound(1), true);
        DUE.is("back", x.damage(0, 0, 82), true);
        DUE.is("sound again", x.sound(0), true);
        DUE.is("what it says is there again", x.target(n("bbcdefghijkl")), n("############"));
        x.begin();
        x.update(n("d"), 0, 1);
        DUE.is("an open transaction stays", x.damage(0, 0, 82) && x.abort() == 1, true);
        DUE.is("one byte alone is never enough", countSoundChanges(twoTables()), 0);
    }

    /** How many changes of one byte of table 1 leave it sound. */
    private static int countSoundChanges(RefStack x) {
        int sound = 0;
        for (int k = 0; k < 17; k++) {
            int before = x.byteAt(1, k);
            for (int bit = 0; bit < 8; bit++) {
                x.damage(1, k, before ^ 1 << bit);
                sound += x.sound(1) ? 1 : 0;
            }
            x.damage(1, k, before);
        }
        return sound;
    }

    private static void sound(String text, int[] bytes, boolean want) {
        RefStack x = Craft.with(bytes);
        DUE.is(text, x.sound(0), want);
        DUE.is(text + ": get", x.get(n("q")), want ? 0 : RefStack.DAMAGED);
        DUE.is(text + ": records", x.records(0) >= 0, want);
    }

    private static void yes(String text, TableBytes bytes) {
        sound(text, bytes.checked(), true);
    }

    private static void no(String text, TableBytes bytes) {
        sound(text, bytes.checked(), false);
    }

    private static TableBytes head(int... bytes) {
        return new TableBytes().raw(bytes);
    }

    private static TableBytes oneRecord(TableBytes head) {
        return head.varint(1).link(0, "aaa", 0, "bbb").varint(0);
    }

    private static void heads() {
        DUE.about("heads");
        yes("as it should be", oneRecord(head(82, 1, 1)));
        no("byte 81", oneRecord(head(81, 1, 1)));
        no("LOW 0", oneRecord(head(82, 0, 1)));
        no("LOW above HIGH", oneRecord(head(82, 3, 2)));
        yes("LOW and HIGH 2000", oneRecord(TableBytes.head(2000, 2000)));
        no("HIGH 2001", oneRecord(TableBytes.head(2000, 2001)));
        no("LOW in one byte too many", oneRecord(head(82, 129, 0, 3)));
        no("HIGH in one byte too many", oneRecord(head(82, 1, 131, 0)));
        no("HIGH in two bytes too many", oneRecord(head(82, 1, 131, 128, 0)));
        no("COUNT in one byte too many",
                head(82, 1, 1, 129, 0).link(0, "aaa", 0, "bbb").varint(0));
        no("COUNT is too great", head(82, 1, 1, 2).link(0, "aaa", 0, "bbb").varint(0));
        no("COUNT is too small", head(82, 1, 1, 0).link(0, "aaa", 0, "bbb").varint(0));
        no("LOGS is too great", head(82, 1, 1, 1).link(0, "aaa", 0, "bbb").varint(1));
        no("a byte more", oneRecord(head(82, 1, 1)).raw(0));
        no("LOGS are missing", head(82, 1, 1, 1).link(0, "aaa", 0, "bbb"));
        no("all bytes are 255", head(255, 255, 255, 255, 255, 255, 255, 255, 255, 255, 255));
        no("all bytes are 128", head(128, 128, 128, 128, 128, 128, 128, 128, 128, 128, 128));
        no("all bytes but the first are 128", head(82, 128, 128, 128, 128, 128, 128, 128, 128, 128, 128));
        no("no end", head(82, 1, 1, 30, 0, 255, 255, 127, 1, 1, 1, 1, 1, 1, 1, 1, 1, 1));
    }

    private static void checks() {
        DUE.about("checks");
        int[] bytes = oneRecord(head(82, 1, 1)).checked();
        int last = bytes.length - 1;
        int[] other = bytes.clone();
        other[last] ^= 1;
        sound("lower byte", other, false);
        other = bytes.clone();
        other[last - 1] ^= 128;
        sound("higher byte", other, false);
        other = bytes.clone();
        other[last] = bytes[last - 1];
        other[last - 1] = bytes[last];
        sound("the other way round", other, bytes[last] == bytes[last - 1]);
    }

    private static TableBytes records(int count) {
        return TableBytes.head(5, 9).varint(count);
    }

    private static void records() {
        DUE.about("records");
        yes("kinds", records(3).absent(0, "a", 4).number(1, "b", 0, 65535).link(2, "c", 2, "a").varint(0));
        no("kind 3", records(2).absent(0, "a", 0).raw(0, 7, 2, 0, 1).varint(0));
        no("TIME above HIGH", records(2).absent(0, "a", 5).absent(0, "b", 0).varint(0));
        no("TIME far above HIGH", records(1).absent(0, "a", 2097151).varint(0));
        no("number 0", records(1).number(0, "aaaa", 0, 0).varint(0));
        no("number 65536", records(1).number(0, "aa", 0, 65536).varint(0));
        no("number of four bytes", records(1).varint(0).raw(5, 1, 0, 129, 128, 128, 0).varint(0));
        no("number too long", records(1).varint(0).raw(9, 1, 1, 0, 129, 128, 0).varint(0));
        yes("link of twelve symbols", records(1).link(0, "a", 0, "abcdefghijkl").varint(0));
        no("link of thirteen symbols", records(1).link(0, "a", 0, "abcdefghijklm").varint(0));
        no("link of no symbols", records(2).link(0, "a", 0, "").absent(0, "b", 0).varint(0));
        no("link to a bad name", records(1).link(0, "a", 0, "b/").varint(0));
        no("link to symbol 0", records(1).varint(0).raw(6, 1, 0, 2, 1, 0).varint(0));
        no("link to symbol 32", records(1).varint(0).raw(6, 1, 0, 2, 1, 32).varint(0));
        yes("link to itself", records(1).link(0, "ab", 0, "ab").varint(0));
        yes("name of twelve symbols", records(1).absent(0, "abcdefghijkl", 0).varint(0));
        no("name of thirteen symbols", records(1).absent(0, "abcdefghijklm", 0).varint(0));
        yes("twelve symbols with shared ones",
                records(2).absent(0, "abcdef", 0).absent(6, "ghijkl", 0).varint(0));
        no("thirteen symbols with shared ones",
                records(2).absent(0, "abcdef", 0).absent(6, "ghijklm", 0).varint(0));
        no("a bad name", records(1).absent(0, "abcde.", 0).varint(0));
        no("a bad name in two pieces", records(2).absent(0, "a/b", 0).absent(2, "/", 0).varint(0));
        no("symbol 29 at the beginning", records(1).absent(0, "!bcdef", 0).varint(0));
        no("symbol 0", records(1).raw(0, 16, 1, 2, 0, 4, 0).varint(0));
        no("symbol 0 at the end", records(1).raw(0, 16, 1, 2, 3, 0, 0).varint(0));
        no("symbol 32", records(1).raw(0, 16, 1, 2, 32, 4, 0).varint(0));
        no("symbol 33", records(1).raw(0, 16, 1, 2, 33, 4, 0).varint(0));
        no("symbol 255", records(1).raw(0, 16, 1, 2, 255, 4, 0).varint(0));
    }

    private static void recordOrder() {
        DUE.about("order of records");
        yes("rising", records(2).absent(0, "ab", 0).absent(1, "c", 0).varint(0));
        no("falling", records(2).absent(0, "ac", 0).absent(1, "b", 0).varint(0));
        no("equal, n is 0", records(2).absent(0, "ab", 0).absent(2, "", 0).varint(0));
        no("equal", records(2).absent(0, "ab", 0).absent(1, "b", 0).varint(0));
        no("a beginning of the one before", records(2).absent(0, "abc", 0).absent(1, "", 0).varint(0));
        yes("strokes are above letters", records(2).absent(0, "az", 0).absent(1, "/b", 0).varint(0));
        no("shared too few", records(2).absent(0, "abc", 0).absent(1, "bd", 0).varint(0));
        no("shared none", records(2).absent(0, "abc", 0).absent(0, "abd", 0).varint(0));
        no("shared too many", records(2).absent(0, "abc", 0).absent(4, "d", 0).varint(0));
        no("shared very many", records(2).absent(0, "abc", 0).absent(2097151, "d", 0).varint(0));
        no("shared in the first", records(1).absent(1, "abcdef", 0).varint(0));
        yes("record 4 is whole", records(5).absent(0, "a", 0).absent(1, "b", 0).absent(2, "c", 0)
                .absent(3, "d", 0).absent(0, "abcde", 0).varint(0));
        no("record 4 shares", records(5).absent(0, "a", 0).absent(1, "b", 0).absent(2, "c", 0)
                .absent(3, "d", 0).absent(4, "e", 0).varint(0));
        yes("record 5 shares again", records(6).absent(0, "a", 0).absent(1, "b", 0).absent(2, "c", 0)
                .absent(3, "d", 0).absent(0, "abcde", 0).absent(5, "f", 0).varint(0));
        no("record 4 falls", records(5).absent(0, "a", 0).absent(1, "b", 0).absent(2, "c", 0)
                .absent(3, "d", 0).absent(0, "abca", 0).varint(0));
        no("record 4 is equal", records(5).absent(0, "a", 0).absent(1, "b", 0).absent(2, "c", 0)
                .absent(3, "d", 0).absent(0, "abcd", 0).varint(0));
        yes("30 records", manyRecords(30).varint(0));
        no("31 records", manyRecords(31).varint(0));
    }

    /** Names of two symbols: twenty that begin with a, and then those that begin with b. */
    private static TableBytes manyRecords(int count) {
        TableBytes out = records(count);
        for (int i = 0; i < count; i++) {
            String name = (i < 20 ? "a" : "b") + (char) ('a' + i % 20);
            boolean whole = i % 4 == 0 || i == 20;
            out.absent(whole ? 0 : 1, whole ? name : name.substring(1), 0);
        }
        return out;
    }

    private static TableBytes entries(int count) {
        return TableBytes.head(5, 9).varint(0).varint(count);
    }

    private static void entries() {
        DUE.about("entries");
        yes("least", entries(1).entry(0, "a", 5, 0, 0));
        yes("greatest", entries(1).entry(0, "a", 9, 65535, 65535));
        no("TIME below LOW", entries(1).entry(0, "a", 4, 0, 0));
        no("TIME above HIGH", entries(1).entry(0, "a", 10, 0, 0));
        no("OLD 65536", entries(1).entry(0, "a", 5, 65536, 0));
        no("NEW 65536", entries(1).entry(0, "a", 5, 0, 65536));
        no("OLD too long", entries(1).raw(0, 1, 1, 5, 130, 0, 0));
        no("a bad name", entries(1).entry(0, "a.", 5, 0, 0));
        no("no name", entries(2).entry(0, "", 5, 0, 0).entry(0, "a", 5, 0, 0));
        no("shared in the first", entries(1).entry(1, "ab", 5, 0, 0));
        yes("name of twelve symbols", entries(1).entry(0, "abcdefghijkl", 5, 0, 0));
        no("name of thirteen symbols", entries(1).entry(0, "abcdefghijklm", 5, 0, 0));
        no("symbol 0", entries(1).raw(0, 2, 1, 0, 5, 0, 0));
        no("symbol 32", entries(1).raw(0, 2, 1, 32, 5, 0, 0));
    }

    private static void entryOrder() {
        DUE.about("order of entries");
        yes("rising", entries(2).entry(0, "a", 5, 0, 0).entry(0, "b", 9, 0, 0));
        no("falling", entries(2).entry(0, "b", 9, 0, 0).entry(0, "a", 5, 0, 0));
        yes("shared", entries(2).entry(0, "abc", 5, 0, 0).entry(2, "d", 5, 0, 0));
        no("shared too few", entries(2).entry(0, "abc", 5, 0, 0).entry(1, "bd", 5, 0, 0));
        no("shared too many", entries(2).entry(0, "abc", 5, 0, 0).entry(4, "d", 5, 0, 0));
        yes("equal, time falls", entries(2).entry(0, "abc", 7, 0, 0).entry(3, "", 6, 0, 0));
        no("equal, time stays", entries(2).entry(0, "abc", 7, 0, 0).entry(3, "", 7, 0, 0));
        no("equal, time rises", entries(2).entry(0, "abc", 7, 0, 0).entry(3, "", 8, 0, 0));
        no("equal, written whole", entries(2).entry(0, "abc", 7, 0, 0).entry(0, "abc", 6, 0, 0));
        no("equal, written in part", entries(2).entry(0, "abc", 7, 0, 0).entry(2, "c", 6, 0, 0));
        no("a beginning of the one before", entries(2).entry(0, "abc", 7, 0, 0).entry(2, "", 6, 0, 0));
        yes("longer than the one before", entries(2).entry(0, "abc", 7, 0, 0).entry(3, "d", 8, 0, 0));
        yes("entry 4 is whole", fourOfFive().entry(0, "ab", 5, 0, 1));
        no("entry 4 shares", fourOfFive().entry(2, "", 5, 0, 1));
        no("entry 4 at the same time", fourOfFive().entry(0, "ab", 6, 0, 1));
        no("entry 4 falls", fourOfFive().entry(0, "aa", 5, 0, 1));
        yes("40 entries", manyEntries(40));
        no("41 entries", manyEntries(41));
        TableBytes both = records(1).absent(0, "abc", 0);
        yes("the first entry does not share with a record", both.varint(1).entry(0, "abd", 5, 0, 0));
        both = records(1).absent(0, "abc", 0);
        yes("nor has it to come behind one", both.varint(1).entry(0, "abb", 5, 0, 0));
    }

    /** A table with five entries up to the fourth. */
    private static TableBytes fourOfFive() {
        return entries(5).entry(0, "ab", 9, 0, 1).entry(2, "", 8, 0, 1)
                .entry(2, "", 7, 0, 1).entry(2, "", 6, 0, 1);
    }

    private static TableBytes manyEntries(int count) {
        TableBytes out = entries(count);
        for (int i = 0; i < count; i++) {
            String name = String.valueOf((char) ('a' + i / 2));
            boolean whole = i % 2 == 0;
            out.entry(whole ? 0 : 1, whole ? name : "", whole ? 9 : 8, 0, 1);
        }
        return out;
    }

    /** A table that was damaged into another one that is well formed says what that one says. */
    private static void otherContents() {
        DUE.about("other contents");
        RefStack x = Craft.with(TableBytes.head(5, 9).varint(3).number(0, "ab", 4, 12345)
                .link(2, "c", 0, "ab").absent(3, "d", 0).varint(1).entry(0, "q", 7, 70, 700).checked());
        DUE.is("records", x.records(0), 3);
        DUE.is("get(ab)", x.get(n("ab")), 12345);
        DUE.is("resolve(abc)", x.resolve(n("abc")), 12345);
        DUE.is("get(abcd)", x.get(n("abcd")), 0);
        DUE.is("scan(0, 1)", x.scan(0, 1), n("abc"));
        DUE.is("scan(0, 2)", x.scan(0, 2), 0);
        DUE.is("log(q, 0, 0)", x.log(n("q"), 0, 0), 7);
        DUE.is("log(q, 0, 1)", x.log(n("q"), 0, 1), 70);
        DUE.is("log(q, 0, 2)", x.log(n("q"), 0, 2), 700);
        x.begin();
        x.update(n("ab"), 12345, 1);
        DUE.is("commit", x.commit(), 10);
    }

    private static void smallest() {
        DUE.about("the smallest table");
        RefStack x = new RefStack();
        x.begin();
        x.update(1, 0, 0);
        x.commit();
        DUE.is("expire", x.expire(2), 1);
        DUE.is("size", x.size(0), 7);
        DUE.is("sound", x.sound(0), true);
        DUE.is("records", x.records(0), 0);
        Craft.overwrite(x, 0, TableBytes.head(3, 4).varint(0).varint(0).checked());
        DUE.is("sound", x.sound(0), true);
        Craft.overwrite(x, 0, TableBytes.head(3, 200).varint(0).checked());
        DUE.is("sound without LOGS", x.sound(0), false);
        Craft.overwrite(x, 0, TableBytes.head(3, 4).varint(0).varint(0).checked());
        x.begin();
        x.update(1, 0, 9);
        DUE.is("commit", x.commit(), 5);
        DUE.is("tables", x.tables(), 1);
    }

    public static void main(String[] args) {
        counts();
        bytes();
        damage();
        heads();
        checks();
        records();
        recordOrder();
        entries();
        entryOrder();
        otherContents();
        smallest();
        DUE.end();
    }
}
