import java.util.Arrays;

/** Promises 12 and 13: compact and expire. */
public final class MergeTest {
    private static final Due DUE = new Due();

    private static long n(String text) {
        return Name.of(text);
    }

    private static int set(RefStack x, String text, int number) {
        x.begin();
        x.update(n(text), RefStack.NONE, number);
        return x.commit();
    }

    private static int link(RefStack x, String text, String to) {
        x.begin();
        x.link(n(text), n(to));
        return x.commit();
    }

    /** Four tables' worth of changes, which are two tables then. */
    private static RefStack twoTables() {
        RefStack x = new RefStack();
        x.begin();
        x.update(n("heads/main"), 0, 1);
        x.update(n("heads/next"), 0, 2);
        x.update(n("tags/one"), 0, 300);
        x.link(n("head"), n("heads/main"));
        x.commit();
        set(x, "go", 0);
        set(x, "tags/one", 0);
        return x;
    }

    private static void compact() {
        DUE.about("promise 12");
        RefStack x = new RefStack();
        DUE.is("without tables", x.compact(), 0);
        DUE.is("tables", x.tables(), 0);
        x = twoTables();
        DUE.is("tables", x.tables(), 2);
        DUE.is("compact", x.compact(), 2);
        DUE.is("tables", x.tables(), 1);
        int[] want = TableBytes.head(1, 3).varint(3)
                .link(0, "head", 0, "heads/main").number(4, "s/main", 0, 1).number(6, "next", 0, 2)
                .varint(5).entry(0, "go", 2, 0, 0).entry(0, "heads/main", 1, 0, 1)
                .entry(6, "next", 1, 0, 2).entry(0, "tags/one", 3, 300, 0)
                .entry(0, "tags/one", 1, 0, 300).checked();
        DUE.sameBytes(x, 0, want);
        DUE.is("compact one", x.compact(), 1);
        DUE.sameBytes(x, 0, want);
        x = new RefStack();
        set(x, "a", 0);
        DUE.is("an absent one in table 0", x.records(0), 1);
        DUE.is("compact one", x.compact(), 1);
        DUE.is("leaves it out", x.records(0), 0);
        DUE.sameBytes(x, 0, TableBytes.head(1, 1).varint(0).varint(1).entry(0, "a", 1, 0, 0).checked());
        DUE.is("time goes on", set(x, "b", 1), 2);
    }

    private static void expire() {
        DUE.about("promise 13");
        RefStack x = new RefStack();
        DUE.is("without tables", x.expire(5), 0);
        DUE.is("tables", x.tables(), 0);
        x = twoTables();
        DUE.is("of 5 entries those before 2", x.expire(2), 3);
        DUE.is("tables", x.tables(), 1);
        DUE.sameBytes(x, 0, TableBytes.head(1, 3).varint(3)
                .link(0, "head", 0, "heads/main").number(4, "s/main", 0, 1).number(6, "next", 0, 2)
                .varint(2).entry(0, "go", 2, 0, 0).entry(0, "tags/one", 3, 300, 0).checked());
        DUE.is("again", x.expire(2), 0);
        DUE.is("a time of its own stays", x.log(n("go"), 0, 0), 2);
        DUE.is("all", x.expire(Integer.MAX_VALUE), 2);
        DUE.is("log", x.log(n("go"), 0, 0), RefStack.NONE);
        DUE.is("get", x.get(n("heads/next")), 2);
        DUE.is("none left", x.expire(Integer.MAX_VALUE), 0);
        x = twoTables();
        DUE.is("least time", x.expire(Integer.MIN_VALUE), 0);
        DUE.is("merged all the same", x.tables(), 1);
        DUE.is("records", x.records(0), 3);
        set(x, "go", 1);
        set(x, "go", 0);
        x.expire(2000);
        DUE.is("time goes on", set(x, "b", 1), 6);
    }

    private static void damaged() {
        DUE.about("damaged");
        RefStack x = twoTables();
        for (int table = 0; table < 2; table++) {
            int before = x.byteAt(table, 5);
            x.damage(table, 5, 255);
            DUE.is("compact", x.compact(), RefStack.DAMAGED);
            DUE.is("expire", x.expire(2), RefStack.DAMAGED);
            DUE.is("tables", x.tables(), 2);
            x.damage(table, 5, before);
        }
        DUE.is("log is still there", x.log(n("heads/main"), 0, 0), 1);
        DUE.is("compact, mended", x.compact(), 2);
    }

    private static TableBytes numbers(TableBytes out, int count) {
        String letters = "abcdefghijklmnopqrstuvwxyz@#";
        out.varint(count);
        for (int i = 0; i < count; i++) {
            String name = i < 28 ? letters.substring(i, i + 1) : "#" + letters.charAt(i - 28);
            boolean shares = i > 28 && i % 4 != 0;
            out.number(shares ? 1 : 0, shares ? name.substring(1) : name, 0, 1 + i);
        }
        return out;
    }

    /** A lower table of 30 records and a higher one of one record, with this name. */
    private static RefStack thirtyAnd(String name, int number) {
        RefStack x = new RefStack();
        int[] lower = numbers(TableBytes.head(1, 1), 30).varint(0).checked();
        Craft.grow(x, lower.length);
        set(x, name, number);
        Craft.overwrite(x, 0, lower);
        DUE.is("tables", x.tables(), 2);
        DUE.is("records of table 0", x.records(0), 30);
        return x;
    }

    private static void tooManyRecords() {
        DUE.about("30 records");
        RefStack x = thirtyAnd("c", 700);
        int high = x.byteAt(1, 2);
        DUE.is("30 names", x.compact(), 2);
        DUE.is("records", x.records(0), 30);
        DUE.is("get(c)", x.get(n("c")), 700);
        DUE.is("get(#b)", x.get(n("#b")), 30);
        DUE.is("HIGH", x.byteAt(0, 2), high);
        DUE.is("one more change is too much", set(x, "c", 1), RefStack.FULL);
        x = thirtyAnd("cc", 700);
        DUE.is("31 names", x.compact(), RefStack.FULL);
        DUE.is("31 names to expire", x.expire(2000), RefStack.FULL);
        DUE.is("nothing changed", x.tables(), 2);
        DUE.is("nothing changed", x.log(n("cc"), 0, 2), 700);
        DUE.is("get(cc)", x.get(n("cc")), 700);
        DUE.is("scan", x.scan(0, 3), n("cc"));
        DUE.is("scan the last", x.scan(0, 30), n("#b"));
        x = thirtyAnd("cc", 0);
        DUE.is("31 names, one absent", x.compact(), 2);
        DUE.is("records", x.records(0), 30);
    }

    /** Forty entries of ten names. */
    private static int[] fortyEntries() {
        TableBytes out = TableBytes.head(1, 9).varint(0).varint(40);
        for (int i = 0; i < 40; i++) {
            String name = "abcdefghij".substring(i / 4, i / 4 + 1);
            out.entry(i % 4 == 0 ? 0 : 1, i % 4 == 0 ? name : "", 8 - i % 4, i, i + 1);
        }
        return out.checked();
    }

    /** A lower table of 40 entries at the times 5 to 8, and a higher one of one entry. */
    private static RefStack fortyAnd(int time, String name) {
        RefStack x = new RefStack();
        int[] lower = fortyEntries();
        Craft.grow(x, lower.length);
        link(x, "z", "#");
        DUE.is("tables", x.tables(), 2);
        Craft.overwrite(x, 1,
                TableBytes.head(1, 9).varint(0).varint(1).entry(0, name, time, 100, 101).checked());
        Craft.overwrite(x, 0, lower);
        DUE.is("sound", x.sound(0) && x.sound(1), true);
        return x;
    }

    private static void tooManyEntries() {
        DUE.about("40 entries");
        RefStack x = fortyAnd(4, "d");
        DUE.is("41 entries", x.compact(), RefStack.FULL);
        DUE.is("41 entries, none expired", x.expire(4), RefStack.FULL);
        DUE.is("nothing changed", x.tables(), 2);
        DUE.is("log(d, 4, 2)", x.log(n("d"), 4, 2), 101);
        DUE.is("one expired", x.expire(5), 1);
        DUE.is("tables", x.tables(), 1);
        DUE.is("log(d, 3, 0)", x.log(n("d"), 3, 0), 5);
        DUE.is("log(d, 4, 2)", x.log(n("d"), 4, 2), RefStack.NONE);
        DUE.is("a commit is too much", set(x, "a", 1), RefStack.FULL);
        DUE.is("a link is too much, too", link(x, "a", "b"), RefStack.FULL);
        x = fortyAnd(7, "d");
        DUE.is("log(d, 1, 2)", x.log(n("d"), 1, 2), 101);
        DUE.is("log(d, 2, 2)", x.log(n("d"), 2, 2), 14);
        DUE.is("41 entries, two at one time", x.compact(), 2);
        DUE.is("log(d, 1, 2)", x.log(n("d"), 1, 2), 101);
        DUE.is("log(d, 2, 0)", x.log(n("d"), 2, 0), 6);
        x = fortyAnd(7, "d");
        DUE.is("expire: one less", x.expire(0), 1);
    }

    /**
     * Sixteen long names with records and 24 entries in table 0, and 14 of the same names, but for
     * their second symbols, which are changed by damage, in the tables above it.
     */
    private static RefStack longNames(int shorter) {
        RefStack x = new RefStack();
        for (int i = 0; i < 24; i += 6) {
            x.begin();
            for (int j = i; j < i + 6; j++) {
                x.update(longName(j % 16), RefStack.NONE, 60000);
            }
            x.commit();
        }
        linkAll(x, 16, 0);
        x.compact();
        linkAll(x, 14, shorter);
        for (int table = 1; table < x.tables(); table++) {
            int[] bytes = Craft.bytesOf(x, table);
            int at = 4;
            for (int record = 0; record < bytes[3]; record++) {
                bytes[at + 3] = 1;
                at += 16 + bytes[at + 15];
            }
            int[] changed = TableBytes.checked(Arrays.copyOf(bytes, bytes.length - 2));
            for (int k = 0; k < bytes.length; k++) {
                if (changed[k] != x.byteAt(table, k)) {
                    x.damage(table, k, changed[k]);
                }
            }
        }
        return x;
    }

    private static long longName(int i) {
        return n((char) ('a' + i) + "zzzzzzzzzzz");
    }

    /** Links of the first names to names of twelve symbols, in all so many symbols less. */
    private static void linkAll(RefStack x, int count, int shorter) {
        int rest = shorter;
        for (int i = 0; i < count; i += 6) {
            x.begin();
            for (int j = i; j < Math.min(i + 6, count); j++) {
                int less = Math.min(rest, 11);
                rest -= less;
                x.link(longName(j), n("#".repeat(12 - less)));
            }
            x.commit();
        }
    }

    private static void tooManyBytes() {
        DUE.about("1200 bytes");
        RefStack x = longNames(0);
        DUE.is("records of table 0", x.records(0), 16);
        int inAll = 0;
        for (int table = 1; table < x.tables(); table++) {
            DUE.is("sound", x.sound(table), true);
            inAll += x.records(table);
        }
        DUE.is("records above", inAll, 14);
        int tables = x.tables();
        // A record of the tables above has 28 bytes, and makes one of table 0 share one symbol.
        int whole = x.size(0) + 14 * 28 - 14;
        DUE.is("above 1201", whole > 1201, true);
        DUE.is("compact", x.compact(), RefStack.FULL);
        DUE.is("expire", x.expire(1), RefStack.FULL);
        DUE.is("nothing changed", x.tables(), tables);
        DUE.is("a commit", link(x, "azzzzzzzzzzz", "#"), RefStack.FULL);
        x = longNames(whole - 1200);
        tables = x.tables();
        DUE.is("just 1200", x.compact(), tables);
        DUE.is("size", x.size(0), 1200);
        DUE.is("records", x.records(0), 30);
        DUE.is("the last byte", x.byteAt(0, 1199) >= 0, true);
        DUE.is("none behind it", x.byteAt(0, 1200), RefStack.NONE);
        DUE.is("sound", x.sound(0), true);
        DUE.is("damage its last byte", x.damage(0, 1199, x.byteAt(0, 1199) ^ 1), true);
        DUE.is("sound no more", x.sound(0), false);
        DUE.is("and back", x.damage(0, 1199, x.byteAt(0, 1199) ^ 1), true);
        DUE.is("read again", x.sound(0), true);
        x = longNames(whole - 1201);
        DUE.is("1201", x.compact(), RefStack.FULL);
        tables = x.tables();
        DUE.is("1201 less the entries of time 1", x.expire(2), 6);
        DUE.is("tables", x.tables(), 1);
    }

    public static void main(String[] args) {
        compact();
        expire();
        damaged();
        tooManyRecords();
        tooManyEntries();
        tooManyBytes();
        DUE.end();
    }
}
