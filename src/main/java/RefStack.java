/**
 * A database of references: names that stand for numbers or for other names, changed by
 * transactions; every transaction becomes a table of bytes on top of a stack of tables.
 *
 * <p>Inside, a name is held as its KEY (see {@link Names}), and what a reference has is held as its
 * CONTENT, one long: 0 when it is absent, a number as it is, a link as the negative key of its
 * name. No good name has the key 0, so 0 stands for "no good name" wherever a key is asked for.
 */
public final class RefStack {
    public static final int NONE = -1;
    public static final int DAMAGED = -2;
    public static final int FULL = -3;
    public static final int LINKED = -4;

    private static final int GREATEST_NUMBER = 65535;
    private static final int GREATEST_BYTE = 255;
    private static final int LATEST_TIME = 2000;
    private static final int MOST_CHANGES = 6;
    private static final int MOST_LINKS = 5;
    private static final int MOST_NAMES_IN_ALL = 16;
    private static final int MOST_ENTRIES_IN_ALL = 24;
    private static final int MOST_RECORDS = 30;
    private static final int MOST_ENTRIES = 40;
    private static final int MOST_BYTES = 1200;

    private static final int FIRST_BYTE = 82;
    private static final int CHECK_BYTES = 2;
    private static final int VARINT_BYTES = 3;
    private static final int WHOLE_NAME_EVERY = 4;
    private static final int KIND_ABSENT = 0;
    private static final int KIND_NUMBER = 1;
    private static final int KIND_LINK = 2;

    private static final int UNEXPECTED = 1;
    private static final int CLASHING = 2;

    /**
     * Every table has at least twice the bytes of the one above it, and none above the lowest has
     * fewer than 11 (a head, one record, no entry, the check): so there are never more than 7. One
     * more is on its way in during a commit, and one more is the place that a merge writes to.
     */
    private static final int SLOTS = 9;

    /** More rows of one kind than the tables of all slots can have. */
    private static final int MOST_STEPS = SLOTS * MOST_ENTRIES + 1;

    private final TableStack stack;
    private final Transaction transaction;
    private final Reader reader;

    public RefStack() {
        stack = new TableStack();
        transaction = new Transaction();
        reader = new Reader();
    }

    public boolean begin() {
        if (transaction.open) {
            return false;
        }
        transaction.open = true;
        transaction.count = 0;
        return true;
    }

    public boolean update(long name, int expected, int number) {
        if (expected < NONE || expected > GREATEST_NUMBER) {
            return false;
        }
        if (number < 0 || number > GREATEST_NUMBER) {
            return false;
        }
        return transaction.add(Names.goodKey(name), expected, number);
    }

    public boolean link(long name, long to) {
        long key = Names.goodKey(name);
        long toKey = Names.goodKey(to);
        if (toKey == 0 || toKey == key) {
            return false;
        }
        return transaction.add(key, NONE, -toKey);
    }

    public int commit() {
        if (!transaction.open) {
            return NONE;
        }
        if (stack.isDamaged()) {
            return DAMAGED;
        }
        transaction.open = false;
        if (transaction.count == 0) {
            return 0;
        }
        int unexpected = firstUnexpected();
        if (unexpected >= 0) {
            return refusal(unexpected, UNEXPECTED);
        }
        if (!stack.draft(transaction)) {
            return FULL;
        }
        int clashing = firstClashing();
        if (clashing >= 0) {
            return refusal(clashing, CLASHING);
        }
        if (!stack.pushDraft()) {
            return FULL;
        }
        int time = stack.latestTime();
        stack.mergeDown();
        return time;
    }

    public int abort() {
        if (!transaction.open) {
            return NONE;
        }
        transaction.open = false;
        return transaction.count;
    }

    public int get(long name) {
        if (stack.isDamaged()) {
            return DAMAGED;
        }
        return numberOrLinked(stack.contentOf(Names.goodKey(name)));
    }

    public long target(long name) {
        if (stack.isDamaged()) {
            return DAMAGED;
        }
        long content = stack.contentOf(Names.goodKey(name));
        return content < 0 ? Names.nameOf(-content) : 0;
    }

    public int resolve(long name) {
        if (stack.isDamaged()) {
            return DAMAGED;
        }
        long content = stack.contentOf(Names.goodKey(name));
        for (int links = 0; links < MOST_LINKS && content < 0; links++) {
            content = stack.contentOf(-content);
        }
        return numberOrLinked(content);
    }

    public long scan(long prefix, int k) {
        if (stack.isDamaged()) {
            return DAMAGED;
        }
        long prefixKey = Names.keyOf(prefix);
        Walk walk = stack.walkRecords(0, stack.height);
        int found = 0;
        for (int i = 0; i < MOST_STEPS && walk.stepToOther(); i++) {
            if (walk.value == 0 || !Names.begins(walk.key, prefixKey)) {
                continue;
            }
            if (found == k) {
                return Names.nameOf(walk.key);
            }
            found++;
        }
        return 0;
    }

    public int log(long name, int n, int what) {
        if (stack.isDamaged()) {
            return DAMAGED;
        }
        long key = Names.goodKey(name);
        Walk walk = stack.walkEntries(0, stack.height);
        int found = 0;
        for (int i = 0; i < MOST_STEPS && walk.step(); i++) {
            if (walk.key != key) {
                continue;
            }
            if (found == n) {
                return partOfEntry(walk, what);
            }
            found++;
        }
        return NONE;
    }

    public int compact() {
        if (stack.isDamaged()) {
            return DAMAGED;
        }
        int before = stack.height;
        return stack.mergeFrom(0, 0) ? before : FULL;
    }

    public int expire(int time) {
        if (stack.isDamaged()) {
            return DAMAGED;
        }
        int before = stack.entriesBelow(stack.height);
        return stack.mergeFrom(0, time) ? before - stack.entriesBelow(stack.height) : FULL;
    }

    public int tables() {
        return stack.height;
    }

    public int size(int table) {
        Table found = stack.tableOrNull(table);
        return found == null ? NONE : found.length;
    }

    public int byteAt(int table, int k) {
        Table found = stack.tableOrNull(table);
        if (found == null || k < 0 || k >= found.length) {
            return NONE;
        }
        return found.bytes[k];
    }

    public boolean damage(int table, int k, int b) {
        Table found = stack.tableOrNull(table);
        if (found == null || k < 0 || k >= found.length || b < 0 || b > GREATEST_BYTE) {
            return false;
        }
        found.bytes[k] = b;
        reader.read(found);
        return true;
    }

    public boolean sound(int table) {
        Table found = stack.tableOrNull(table);
        return found != null && found.wellFormed;
    }

    public int records(int table) {
        Table found = stack.tableOrNull(table);
        return found != null && found.wellFormed ? found.recordRows.count : NONE;
    }

    private static int numberOrLinked(long content) {
        return content < 0 ? LINKED : (int) content;
    }

    private static int refusal(int change, int reason) {
        return -100 * (change + 1) - reason;
    }

    private static int partOfEntry(Walk entry, int what) {
        switch (what) {
            case 0:
                return entry.time;
            case 1:
                return Rows.oldOf(entry.value);
            case 2:
                return Rows.newOf(entry.value);
            default:
                return NONE;
        }
    }

    /** The first change whose reference does not have what is expected, or -1. */
    private int firstUnexpected() {
        for (int i = 0; i < transaction.count; i++) {
            int expected = transaction.expected[i];
            if (expected != NONE && expected != stack.contentOf(transaction.keys[i])) {
                return i;
            }
        }
        return -1;
    }

    /** The first change that the draft's names or those of the tables clash with, or -1. */
    private int firstClashing() {
        for (int i = 0; i < transaction.count; i++) {
            if (transaction.contents[i] != 0 && stack.draftClashes(transaction.keys[i])) {
                return i;
            }
        }
        return -1;
    }

    /**
     * Names and their keys. A key has the symbols of a name the other way round, symbol 0 in the
     * highest of 60 bits, so that keys are ordered as numbers just as names are ordered.
     */
    private static final class Names {
        private static final int LONGEST = 12;
        private static final int BITS = 5;
        private static final int GREATEST_SYMBOL = 31;
        private static final int STROKE = 27;
        private static final int DOT = 28;
        private static final int NEVER_FIRST = 29;

        static int placeOf(int i) {
            return BITS * (LONGEST - 1 - i);
        }

        static int symbolOf(long key, int i) {
            return (int) (key >>> (BITS * (LONGEST - 1 - i))) & GREATEST_SYMBOL;
        }

        /** The key of a long's symbols up to the first that is 0, whatever stands behind it. */
        static long keyOf(long name) {
            long key = 0;
            for (int i = 0; i < LONGEST; i++) {
                long symbol = (name >>> (BITS * i)) & GREATEST_SYMBOL;
                if (symbol == 0) {
                    break;
                }
                key |= symbol << placeOf(i);
            }
            return key;
        }

        static long nameOf(long key) {
            long name = 0;
            for (int i = 0; i < LONGEST; i++) {
                name |= (long) symbolOf(key, i) << (BITS * i);
            }
            return name;
        }

        /** The key of a good name, 0 for any other long. */
        static long goodKey(long name) {
            long key = keyOf(name);
            return nameOf(key) == name && isGood(key) ? key : 0;
        }

        /**
         * Strokes and dots alike may stand neither first nor last nor beside each other: that is
         * the same as no part being empty, none beginning or ending with a dot, and no two dots.
         */
        static boolean isGood(long key) {
            boolean afterMark = true;
            for (int i = 0; i < LONGEST; i++) {
                int symbol = symbolOf(key, i);
                if (symbol == 0) {
                    break;
                }
                boolean mark = symbol == STROKE || symbol == DOT;
                if (mark && afterMark) {
                    return false;
                }
                afterMark = mark;
            }
            return !afterMark && symbolOf(key, 0) != NEVER_FIRST;
        }

        static int lengthOf(long key) {
            return alike(key, key);
        }

        /** How many symbols two names have alike at their beginning. */
        static int alike(long key, long other) {
            int count = 0;
            for (int place = BITS * (LONGEST - 1); place >= 0; place -= BITS) {
                long symbol = (key >>> place) & GREATEST_SYMBOL;
                if (symbol == 0 || symbol != ((other >>> place) & GREATEST_SYMBOL)) {
                    break;
                }
                count++;
            }
            return count;
        }

        static boolean begins(long key, long prefixKey) {
            return alike(key, prefixKey) == lengthOf(prefixKey);
        }

        static boolean isUnder(long key, long upper) {
            int length = lengthOf(upper);
            return length < LONGEST && begins(key, upper) && symbolOf(key, length) == STROKE;
        }
    }

    /** Records (the value is the content) or entries (the value is OLD and NEW) of one table. */
    private static final class Rows {
        private final int room;
        private final long[] keys;
        private final int[] times;
        private final long[] values;
        private int count;

        Rows(int room) {
            this.room = room;
            keys = new long[room];
            times = new int[room];
            values = new long[room];
        }

        static long valueOf(int oldNumber, int newNumber) {
            return (long) oldNumber << 16 | newNumber;
        }

        static int oldOf(long value) {
            return (int) (value >>> 16) & GREATEST_NUMBER;
        }

        static int newOf(long value) {
            return (int) value & GREATEST_NUMBER;
        }

        boolean add(long key, int time, long value) {
            if (count >= room) {
                return false;
            }
            keys[count] = key;
            times[count] = time;
            values[count] = value;
            count++;
            return true;
        }

        long keyBefore(int i) {
            return i > 0 && i <= room ? keys[i - 1] : 0;
        }

        /** The SHARED that is due in row i if it has this key. */
        int sharedDue(int i, long key) {
            return i % WHOLE_NAME_EVERY == 0 ? 0 : Names.alike(keyBefore(i), key);
        }
    }

    /** The bytes of a table and, while it is well formed, what they say. */
    private static final class Table {
        private final int[] bytes = new int[MOST_BYTES];
        private final Rows recordRows = new Rows(MOST_RECORDS);
        private final Rows entryRows = new Rows(MOST_ENTRIES);
        private int length;
        private int low;
        private int high;
        private boolean wellFormed;

        void clearRows(int newLow, int newHigh) {
            low = newLow;
            high = newHigh;
            recordRows.count = 0;
            entryRows.count = 0;
        }

        /** The CHECK of the first bytes. */
        int checkOf(int count) {
            int check = 65535;
            for (int i = 0; i < count && i < MOST_BYTES; i++) {
                check ^= bytes[i] << 8;
                for (int bit = 0; bit < 8; bit++) {
                    check <<= 1;
                    if (check > 65535) {
                        check = (check & 65535) ^ 4129;
                    }
                }
            }
            return check;
        }
    }

    /** Takes what a table says from its bytes; the first fault makes all the rest a failure. */
    private static final class Reader {
        private Table table;
        private int position;
        private int end;
        private boolean failed;

        void read(Table from) {
            table = from;
            position = 0;
            end = from.length - CHECK_BYTES;
            failed = false;
            require(nextByte() == FIRST_BYTE);
            int low = nextVarint();
            int high = nextVarint();
            require(1 <= low && low <= high && high <= LATEST_TIME);
            from.clearRows(low, high);
            int records = nextVarint();
            require(records <= MOST_RECORDS);
            for (int i = 0; i < records && !failed; i++) {
                readRecord(i);
            }
            int entries = nextVarint();
            require(entries <= MOST_ENTRIES);
            for (int i = 0; i < entries && !failed; i++) {
                readEntry(i);
            }
            require(position == end);
            from.wellFormed = !failed && checkIsRight();
        }

        private void require(boolean condition) {
            if (!condition) {
                failed = true;
            }
        }

        private boolean checkIsRight() {
            if (end < 0 || end + 1 >= MOST_BYTES) {
                return false;
            }
            return table.checkOf(end) == (table.bytes[end] << 8 | table.bytes[end + 1]);
        }

        private void readRecord(int i) {
            Rows rows = table.recordRows;
            int shared = nextVarint();
            int head = nextVarint();
            require(head >> 2 >= 1);
            long key = nextKey(rows.keyBefore(i), shared, head >> 2);
            require(shared == rows.sharedDue(i, key) && key > rows.keyBefore(i));
            int time = table.low + nextVarint();
            require(time <= table.high);
            require(rows.add(key, time, nextContent(head & 3)));
        }

        private long nextContent(int kind) {
            switch (kind) {
                case KIND_ABSENT:
                    return 0;
                case KIND_NUMBER:
                    int number = nextNumber();
                    require(number >= 1);
                    return number;
                case KIND_LINK:
                    return -nextKey(0, 0, nextVarint());
                default:
                    failed = true;
                    return 0;
            }
        }

        private void readEntry(int i) {
            Rows rows = table.entryRows;
            int shared = nextVarint();
            long keyBefore = rows.keyBefore(i);
            long key = nextKey(keyBefore, shared, nextVarint());
            require(shared == rows.sharedDue(i, key) && key >= keyBefore);
            int time = nextVarint();
            require(time >= table.low && time <= table.high);
            require(i == 0 || key != keyBefore || time < rows.times[i - 1]);
            int oldNumber = nextNumber();
            int newNumber = nextNumber();
            require(rows.add(key, time, Rows.valueOf(oldNumber, newNumber)));
        }

        /** The key of the good name that has the first symbols of another one and the next bytes. */
        private long nextKey(long keyBefore, int shared, int n) {
            if (shared + n > Names.LONGEST) {
                failed = true;
                return 0;
            }
            long key = 0;
            for (int i = 0; i < shared; i++) {
                key |= (long) Names.symbolOf(keyBefore, i) << Names.placeOf(i);
            }
            for (int i = shared; i < shared + n; i++) {
                int symbol = nextByte();
                require(symbol >= 1 && symbol <= Names.GREATEST_SYMBOL);
                key |= (long) (symbol & Names.GREATEST_SYMBOL) << Names.placeOf(i);
            }
            require(Names.isGood(key));
            return key;
        }

        private int nextNumber() {
            int number = nextVarint();
            require(number <= GREATEST_NUMBER);
            return number;
        }

        /** The next varint, never below 0, also when it is a faulty one. */
        private int nextVarint() {
            int number = 0;
            for (int i = 0; i < VARINT_BYTES; i++) {
                int next = nextByte();
                number |= (next & 127) << (7 * i);
                if (next < 128) {
                    require(next != 0 || i == 0);
                    return number;
                }
            }
            failed = true;
            return number;
        }

        private int nextByte() {
            if (position < 0 || position >= end) {
                failed = true;
                return 0;
            }
            return table.bytes[position++];
        }
    }

    /** Writes what a table says into its bytes. */
    private static final class Writer {
        private Table table;
        private boolean fits;

        /** False when the table would have too many bytes. */
        boolean write(Table into) {
            table = into;
            table.length = 0;
            fits = true;
            putVarint(FIRST_BYTE);
            putVarint(into.low);
            putVarint(into.high);
            putVarint(into.recordRows.count);
            for (int i = 0; i < into.recordRows.count; i++) {
                putRecord(i);
            }
            putVarint(into.entryRows.count);
            for (int i = 0; i < into.entryRows.count; i++) {
                putEntry(i);
            }
            int check = into.checkOf(into.length);
            putByte(check >> 8);
            putByte(check & 255);
            into.wellFormed = fits;
            return fits;
        }

        private void putRecord(int i) {
            Rows rows = table.recordRows;
            long key = rows.keys[i];
            long content = rows.values[i];
            int shared = rows.sharedDue(i, key);
            int length = Names.lengthOf(key);
            int kind = content == 0 ? KIND_ABSENT : content > 0 ? KIND_NUMBER : KIND_LINK;
            putVarint(shared);
            putVarint(4 * (length - shared) + kind);
            putSymbols(key, shared, length);
            putVarint(rows.times[i] - table.low);
            if (kind == KIND_NUMBER) {
                putVarint((int) content);
            } else if (kind == KIND_LINK) {
                int linkLength = Names.lengthOf(-content);
                putVarint(linkLength);
                putSymbols(-content, 0, linkLength);
            }
        }

        private void putEntry(int i) {
            Rows rows = table.entryRows;
            long key = rows.keys[i];
            int shared = rows.sharedDue(i, key);
            int length = Names.lengthOf(key);
            putVarint(shared);
            putVarint(length - shared);
            putSymbols(key, shared, length);
            putVarint(rows.times[i]);
            putVarint(Rows.oldOf(rows.values[i]));
            putVarint(Rows.newOf(rows.values[i]));
        }

        private void putSymbols(long key, int from, int to) {
            for (int i = from; i < to; i++) {
                putByte(Names.symbolOf(key, i));
            }
        }

        private void putVarint(int number) {
            int rest = number;
            for (int i = 1; i < VARINT_BYTES && rest > 127; i++) {
                putByte(rest & 127 | 128);
                rest >>= 7;
            }
            putByte(rest);
        }

        private void putByte(int b) {
            if (table.length >= MOST_BYTES) {
                fits = false;
                return;
            }
            table.bytes[table.length] = b;
            table.length++;
        }
    }

    /**
     * Goes through rows of several tables at once in the order of their names, and, if it is timed,
     * those of one name by falling times; of rows that are equal in that, those that were added to
     * the walk earlier come first.
     */
    private static final class Walk {
        private final boolean timed;
        private final Rows[] sources = new Rows[SLOTS];
        private final int[] next = new int[SLOTS];
        private int count;
        private long key;
        private int time;
        private long value;

        Walk(boolean timed) {
            this.timed = timed;
        }

        void restart() {
            count = 0;
            key = 0;
        }

        void add(Rows source) {
            if (count < SLOTS) {
                sources[count] = source;
                next[count] = 0;
                count++;
            }
        }

        /** On to the next row; false when there is none. */
        boolean step() {
            Rows best = null;
            int bestSource = 0;
            for (int i = 0; i < count; i++) {
                Rows rows = sources[i];
                if (rows == null || next[i] >= rows.count) {
                    continue;
                }
                if (best == null || comesBefore(rows, next[i], best, next[bestSource])) {
                    best = rows;
                    bestSource = i;
                }
            }
            if (best == null) {
                return false;
            }
            int row = next[bestSource]++;
            key = best.keys[row];
            time = best.times[row];
            value = best.values[row];
            return true;
        }

        /** On to the next row that differs in name (or in time, if timed) from where it is. */
        boolean stepToOther() {
            long keyLeft = key;
            int timeLeft = time;
            for (int i = 0; i <= count; i++) {
                if (!step()) {
                    return false;
                }
                if (key != keyLeft || timed && time != timeLeft) {
                    return true;
                }
            }
            return false;
        }

        private boolean comesBefore(Rows rows, int row, Rows others, int other) {
            if (rows.keys[row] != others.keys[other]) {
                return rows.keys[row] < others.keys[other];
            }
            return timed && rows.times[row] > others.times[other];
        }
    }

    /** The changes of a transaction in the order in which they were made. */
    private static final class Transaction {
        private final long[] keys = new long[MOST_CHANGES];
        private final int[] expected = new int[MOST_CHANGES];
        private final long[] contents = new long[MOST_CHANGES];
        private int count;
        private boolean open;

        boolean add(long key, int expectedNumber, long content) {
            if (!open || key == 0 || count >= MOST_CHANGES || changes(key)) {
                return false;
            }
            keys[count] = key;
            expected[count] = expectedNumber;
            contents[count] = content;
            count++;
            return true;
        }

        private boolean changes(long key) {
            for (int i = 0; i < count; i++) {
                if (keys[i] == key) {
                    return true;
                }
            }
            return false;
        }

        /** The change with the least key above this one, or -1. */
        int firstAbove(long key) {
            int best = -1;
            for (int i = 0; i < count; i++) {
                if (keys[i] > key && (best < 0 || keys[i] < keys[best])) {
                    best = i;
                }
            }
            return best;
        }
    }

    /**
     * The tables from the bottom up. The slots above the highest table hold tables that are out of
     * use: they are written to again, so that a run of many calls makes few objects.
     */
    private static final class TableStack {
        private final Table[] slots = new Table[SLOTS];
        private final Writer writer = new Writer();
        private final Walk recordWalk = new Walk(false);
        private final Walk entryWalk = new Walk(true);
        private int height;

        Table tableOrNull(int i) {
            return i >= 0 && i < height ? slots[i] : null;
        }

        /**
         * The table of a slot, in use or not. There is no call for a slot beyond the last, but the
         * index is looked at here, so that this needs no proof elsewhere.
         */
        private Table tableIn(int i) {
            int slot = Math.max(0, Math.min(i, SLOTS - 1));
            if (slots[slot] == null) {
                slots[slot] = new Table();
            }
            return slots[slot];
        }

        boolean isDamaged() {
            for (int i = 0; i < height; i++) {
                if (!tableIn(i).wellFormed) {
                    return true;
                }
            }
            return false;
        }

        long contentOf(long key) {
            for (int i = height - 1; i >= 0; i--) {
                Rows rows = tableIn(i).recordRows;
                for (int row = 0; row < rows.count; row++) {
                    if (rows.keys[row] == key) {
                        return rows.values[row];
                    }
                }
            }
            return 0;
        }

        int latestTime() {
            int latest = 0;
            for (int i = 0; i < height; i++) {
                latest = Math.max(latest, tableIn(i).high);
            }
            return latest;
        }

        /** How many entries the tables below this slot have. */
        int entriesBelow(int above) {
            int entries = 0;
            for (int i = 0; i < above; i++) {
                entries += tableIn(i).entryRows.count;
            }
            return entries;
        }

        /** A walk through the records of the tables of these slots, the highest table first. */
        Walk walkRecords(int lowest, int above) {
            recordWalk.restart();
            for (int i = above - 1; i >= lowest; i--) {
                recordWalk.add(tableIn(i).recordRows);
            }
            return recordWalk;
        }

        /** A walk through the entries of the tables of these slots, the highest table first. */
        Walk walkEntries(int lowest, int above) {
            entryWalk.restart();
            for (int i = above - 1; i >= lowest; i--) {
                entryWalk.add(tableIn(i).entryRows);
            }
            return entryWalk;
        }

        /**
         * Puts what the changes ask for into the slot above the highest table, where it is not yet
         * one of the tables; false when no slot is left for it and for a merge.
         */
        boolean draft(Transaction changes) {
            if (height + 1 >= SLOTS) {
                return false;
            }
            int time = latestTime() + 1;
            Table draft = tableIn(height);
            draft.clearRows(time, time);
            int change = changes.firstAbove(0);
            for (int i = 0; i < MOST_CHANGES && change >= 0; i++) {
                long key = changes.keys[change];
                long content = changes.contents[change];
                draft.recordRows.add(key, time, content);
                if (content >= 0) {
                    int oldNumber = (int) Math.max(contentOf(key), 0);
                    draft.entryRows.add(key, time, Rows.valueOf(oldNumber, (int) content));
                }
                change = changes.firstAbove(key);
            }
            return true;
        }

        /** Whether, with the draft on top, some name would be under this one or above it. */
        boolean draftClashes(long key) {
            Walk walk = walkRecords(0, height + 1);
            for (int i = 0; i < MOST_STEPS && walk.stepToOther(); i++) {
                if (walk.value == 0) {
                    continue;
                }
                if (Names.isUnder(walk.key, key) || Names.isUnder(key, walk.key)) {
                    return true;
                }
            }
            return false;
        }

        /** Makes the draft the highest table; false, and nothing is changed, when that is too much. */
        boolean pushDraft() {
            if (tableIn(height).high > LATEST_TIME || draftIsTooMuch()) {
                return false;
            }
            if (!writer.write(tableIn(height))) {
                return false;
            }
            height++;
            return true;
        }

        private boolean draftIsTooMuch() {
            Walk walk = walkRecords(0, height + 1);
            int names = 0;
            for (int i = 0; i < MOST_STEPS && walk.stepToOther(); i++) {
                names++;
            }
            return names > MOST_NAMES_IN_ALL || entriesBelow(height + 1) > MOST_ENTRIES_IN_ALL;
        }

        /**
         * Merges the two highest tables as long as the lower one is not twice as large. What comes
         * of that always fits, also after damage, so a commit is never FULL as late as this: all
         * the tables that a draft was pushed on have 16 names and 24 entries at most, and a table
         * of so many has at most 6 + 16 * 29 + 1 + 24 * 22 + 2 = 1001 bytes.
         */
        void mergeDown() {
            for (int i = 0; i < SLOTS && height >= 2; i++) {
                if (tableIn(height - 2).length >= 2 * tableIn(height - 1).length) {
                    return;
                }
                if (!mergeFrom(height - 2, 0)) {
                    return;
                }
            }
        }

        /**
         * Merges the tables from this one to the highest, leaving out entries before a time; false,
         * and nothing is changed, when one table can't hold them.
         */
        boolean mergeFrom(int lowest, int time) {
            if (height == 0) {
                return true;
            }
            if (lowest < 0 || lowest >= height || height >= SLOTS) {
                return false;
            }
            Table merged = tableIn(height);
            clearForMerge(merged, lowest);
            if (!mergeRecords(merged, lowest) || !mergeEntries(merged, lowest, time)) {
                return false;
            }
            if (!writer.write(merged)) {
                return false;
            }
            slots[height] = slots[lowest];
            slots[lowest] = merged;
            height = lowest + 1;
            return true;
        }

        private void clearForMerge(Table merged, int lowest) {
            int low = LATEST_TIME;
            int high = 0;
            for (int i = lowest; i < height; i++) {
                low = Math.min(low, tableIn(i).low);
                high = Math.max(high, tableIn(i).high);
            }
            merged.clearRows(low, high);
        }

        private boolean mergeRecords(Table merged, int lowest) {
            Walk walk = walkRecords(lowest, height);
            for (int i = 0; i < MOST_STEPS && walk.stepToOther(); i++) {
                // Below table 0 nothing is left that an absent one could hide.
                boolean needless = walk.value == 0 && lowest == 0;
                if (!needless && !merged.recordRows.add(walk.key, walk.time, walk.value)) {
                    return false;
                }
            }
            return true;
        }

        private boolean mergeEntries(Table merged, int lowest, int time) {
            Walk walk = walkEntries(lowest, height);
            for (int i = 0; i < MOST_STEPS && walk.stepToOther(); i++) {
                boolean expired = walk.time < time;
                if (!expired && !merged.entryRows.add(walk.key, walk.time, walk.value)) {
                    return false;
                }
            }
            return true;
        }
    }
}
