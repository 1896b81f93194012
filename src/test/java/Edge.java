import java.util.Arrays;

/** Objects at the edges of what tables and stacks may hold. */
final class Edge {
    private static final String LETTERS = "abcdefghijklmnopqrstuvwxyz@#";

    private Edge() {
    }

    /** One table of 103 bytes with links of the sixteen names a to p, of the times 1, 2 and 3. */
    static RefStack sixteenNames() {
        RefStack x = new RefStack();
        Calls.must(Calls.change(x, "a>#", "b>#", "c>#", "d>#", "e>#", "f>#") == 1);
        Calls.must(Calls.change(x, "g>#", "h>#", "i>#", "j>#", "k>#", "l>#") == 2);
        Calls.must(Calls.change(x, "m>#", "n>#", "o>#", "p>#") == 3);
        Calls.must(x.compact() > 0 && x.size(0) == 103);
        return x;
    }

    /** "a" has the number 24, after as many changes with an entry each. */
    static RefStack twentyFourEntries() {
        RefStack x = new RefStack();
        for (int i = 1; i <= 24; i++) {
            Calls.must(Calls.change(x, "a=" + i) == i);
        }
        return x;
    }

    /** A table whose records have the numbers 1, 2, .. , at the time 1. */
    static int[] numbers(int count) {
        TableBytes out = TableBytes.head(1, 1).varint(count);
        for (int i = 0; i < count; i++) {
            boolean shares = i > 28 && i % 4 != 0;
            String name = nameOfRecord(i);
            out.number(shares ? 1 : 0, shares ? name.substring(1) : name, 0, 1 + i);
        }
        return out.varint(0).checked();
    }

    /** Names of rising order: a to z, @, #, #a, #b, .. */
    static String nameOfRecord(int i) {
        return i < 28 ? LETTERS.substring(i, i + 1) : "#" + LETTERS.charAt(i - 28);
    }

    /** A lower table of 30 records and a higher one, of time 2, with one record and one entry. */
    static RefStack thirtyRecordsAnd(String name, int number) {
        RefStack x = new RefStack();
        int[] lower = numbers(30);
        Craft.grow(x, lower.length);
        Calls.must(Calls.change(x, name + "=" + number) == 2);
        Calls.must(x.tables() == 2);
        Craft.overwrite(x, 0, lower);
        Calls.must(x.sound(0) && x.records(0) == 30);
        return x;
    }

    /** So many entries, four each of the names a, b, c, .. at the times 8, 7, 6, 5. */
    static int[] entries(int count) {
        TableBytes out = TableBytes.head(1, 9).varint(0).varint(count);
        for (int i = 0; i < count; i++) {
            String name = LETTERS.substring(i / 4, i / 4 + 1);
            out.entry(i % 4 == 0 ? 0 : 1, i % 4 == 0 ? name : "", 8 - i % 4, i, i + 1);
        }
        return out.checked();
    }

    /** Two tables, of 30 and of 24 records of different names (see namesOfTwo). */
    static RefStack thirtyAnd24Records() {
        TableBytes lower = TableBytes.head(1, 1).varint(30);
        for (int i = 0; i < 30; i++) {
            String name = nameOfTwo(i);
            int shared = i % 4 == 0 || i == 26 ? 0 : 1;
            lower.number(shared, name.substring(shared), 0, 1 + i);
        }
        TableBytes higher = TableBytes.head(2, 2).varint(24);
        for (int i = 0; i < 24; i++) {
            higher.number(0, nameOfTwo(30 + i), 0, 31 + i);
        }
        RefStack x = Craft.with(lower.varint(0).checked(), higher.varint(0).checked());
        Calls.must(x.records(0) == 30 && x.records(1) == 24);
        return x;
    }

    /** The names of thirtyAnd24Records: aazzz to bdzzz in the lower table, a to x in the higher one. */
    static String nameOfTwo(int i) {
        if (i >= 30) {
            return LETTERS.substring(i - 30, i - 29);
        }
        return (i < 26 ? "a" : "b") + LETTERS.charAt(i % 26) + "zzz";
    }

    /**
     * Two tables with entries of "a": a lower one of 40, at the times 2, 4, .. 80, and a higher one
     * of 26, at the times 29, 31, .. 79. NEW is the time, OLD 20000 more in the
     * lower one, and the time in the higher one.
     */
    static RefStack fortyAnd26Entries() {
        int[] lower = entriesOfA(40, 80);
        int[] higher = entriesOfA(26, 79);
        RefStack x = Craft.with(lower, higher);
        Calls.must(x.sound(0) && x.sound(1));
        return x;
    }

    private static int[] entriesOfA(int count, int latest) {
        TableBytes out = TableBytes.head(1, 90).varint(0).varint(count);
        for (int i = 0; i < count; i++) {
            int time = latest - 2 * i;
            int oldNumber = latest == 80 ? 20000 + time : time;
            out.entry(i % 4 == 0 ? 0 : 1, i % 4 == 0 ? "a" : "", time, oldNumber, time);
        }
        return out.checked();
    }

    /** A lower table of 40 entries at the times 5 to 8, and a higher one with this one entry. */
    static RefStack fortyEntriesAnd(String name, int time) {
        int[] higher = TableBytes.head(1, 9).varint(0).varint(1).entry(0, name, time, 100, 101).checked();
        RefStack x = Craft.with(entries(40), higher);
        Calls.must(x.sound(0) && x.sound(1));
        return x;
    }

    /**
     * Several tables that make one of so many bytes (1100 to 1207), with 30 records and 24 entries:
     * table 0 has links of sixteen names of twelve symbols, those above it links of fourteen names
     * that differ from these in their second symbols alone, which damage has brought about.
     */
    static RefStack bytesInAll(int bytes) {
        // A record above has 28 bytes, less what its link is shortened by, and lets one record of
        // table 0 share a symbol.
        int whole = longLinks(0).size(0) + 14 * 28 - 14;
        Calls.must(whole - bytes >= 0);
        RefStack x = longLinks(whole - bytes);
        RefStack twin = longLinks(whole - bytes);
        for (int table = 1; table < x.tables(); table++) {
            changeSecondSymbols(x, table, Craft.bytesOf(twin, table));
        }
        return x;
    }

    private static void changeSecondSymbols(RefStack x, int table, int[] bytes) {
        int[] changed = bytes.clone();
        int at = 4;
        for (int record = 0; record < bytes[3]; record++) {
            changed[at + 3] = 1;
            at += 16 + bytes[at + 15];
        }
        changed = TableBytes.checked(Arrays.copyOf(changed, changed.length - 2));
        for (int k = 0; k < bytes.length; k++) {
            if (changed[k] != bytes[k]) {
                Calls.must(x.damage(table, k, changed[k]));
            }
        }
        Calls.must(x.sound(table));
    }

    /** The links of bytesInAll before the damage, those above table 0 so many symbols shorter. */
    private static RefStack longLinks(int shorter) {
        RefStack x = new RefStack();
        for (int i = 0; i < 24; i += 6) {
            x.begin();
            for (int j = i; j < i + 6; j++) {
                x.update(longName(j % 16), RefStack.NONE, 60000);
            }
            Calls.must(x.commit() > 0);
        }
        linkAll(x, 16, 0);
        Calls.must(x.compact() > 0);
        linkAll(x, 14, shorter);
        Calls.must(x.tables() > 1 && x.records(0) == 16);
        return x;
    }

    static long longName(int i) {
        return Name.of((char) ('a' + i) + "zzzzzzzzzzz");
    }

    private static void linkAll(RefStack x, int count, int shorter) {
        int rest = shorter;
        for (int i = 0; i < count; i += 6) {
            x.begin();
            for (int j = i; j < Math.min(i + 6, count); j++) {
                int less = Math.min(rest, 11);
                rest -= less;
                x.link(longName(j), Name.of("#".repeat(12 - less)));
            }
            Calls.must(x.commit() > 0);
        }
    }
}
