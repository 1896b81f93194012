import java.util.ArrayList;
import java.util.Arrays;
import java.util.Comparator;
import java.util.List;
import java.util.Map;
import java.util.TreeMap;
import java.util.TreeSet;

/**
 * The document once more, written for plainness alone: names are texts of symbols, nothing is held
 * but the bytes of the tables, and a table is well formed when writing what was read from it gives
 * the same bytes again.
 */
final class Model {
    record Content(int number, String link) {
        boolean absent() {
            return number == 0 && link == null;
        }
    }

    record Row(String name, int time, Content content) {
    }

    record Entry(String name, int time, int oldNumber, int newNumber) {
    }

    record Change(String name, int expected, Content content) {
    }

    record Table(int low, int high, List<Row> rows, List<Entry> entries) {
    }

    private static final Content ABSENT = new Content(0, null);

    final List<int[]> tables = new ArrayList<>();
    private List<Change> changes;

    // ---- names

    /** The symbols of a long up to the first that is 0, as characters 1 to 31. */
    static String symbols(long name) {
        StringBuilder text = new StringBuilder();
        for (int i = 0; i < 12 && (name >>> 5 * i & 31) != 0; i++) {
            text.append((char) (name >>> 5 * i & 31));
        }
        return text.toString();
    }

    static long name(String symbols) {
        long name = 0;
        for (int i = symbols.length() - 1; i >= 0; i--) {
            name = name * 32 + symbols.charAt(i);
        }
        return name;
    }

    static boolean good(String symbols) {
        if (symbols.isEmpty() || symbols.length() > 12 || symbols.charAt(0) == 29) {
            return false;
        }
        for (String part : symbols.split("\u001b", -1)) {
            if (part.isEmpty() || part.startsWith("\u001c") || part.endsWith("\u001c")) {
                return false;
            }
        }
        return symbols.indexOf(0) < 0 && !symbols.contains("\u001c\u001c");
    }

    static boolean good(long name) {
        return name(symbols(name)) == name && good(symbols(name));
    }

    static boolean under(String name, String upper) {
        return name.startsWith(upper + "\u001b");
    }

    // ---- bytes

    static int shared(String name, String before, int i) {
        int shared = 0;
        while (i % 4 != 0 && shared < Math.min(name.length(), before.length())
                && name.charAt(shared) == before.charAt(shared)) {
            shared++;
        }
        return shared;
    }

    static int[] write(Table table) {
        TableBytes out = TableBytes.head(table.low, table.high).varint(table.rows.size());
        String before = "";
        for (int i = 0; i < table.rows.size(); i++) {
            Row row = table.rows.get(i);
            int shared = shared(row.name, before, i);
            int kind = row.content.absent() ? 0 : row.content.link == null ? 1 : 2;
            out.varint(shared).varint(4 * (row.name.length() - shared) + kind);
            out.raw(row.name.substring(shared).chars().toArray()).varint(row.time - table.low);
            if (kind == 1) {
                out.varint(row.content.number);
            }
            if (kind == 2) {
                out.varint(row.content.link.length()).raw(row.content.link.chars().toArray());
            }
            before = row.name;
        }
        out.varint(table.entries.size());
        for (int i = 0; i < table.entries.size(); i++) {
            Entry entry = table.entries.get(i);
            int shared = shared(entry.name, i == 0 ? "" : table.entries.get(i - 1).name, i);
            out.varint(shared).varint(entry.name.length() - shared);
            out.raw(entry.name.substring(shared).chars().toArray());
            out.varint(entry.time).varint(entry.oldNumber).varint(entry.newNumber);
        }
        return out.checked();
    }

    private static final class Input {
        final int[] bytes;
        int at;

        Input(int[] bytes) {
            this.bytes = bytes;
        }

        int varint() {
            int first = bytes[at++];
            return first < 128 ? first : first - 128 + 128 * varint();
        }

        String text(String before, int shared, int n) {
            StringBuilder text = new StringBuilder(before.substring(0, shared));
            for (int i = 0; i < n; i++) {
                text.append((char) bytes[at++]);
            }
            return text.toString();
        }
    }

    /** What the bytes of a table say, or null if it is not well formed. */
    static Table read(int[] bytes) {
        try {
            Table table = readLoosely(new Input(bytes));
            return keepsItsRules(table) && Arrays.equals(write(table), bytes) ? table : null;
        } catch (IndexOutOfBoundsException | StackOverflowError e) {
            return null;
        }
    }

    private static Table readLoosely(Input in) {
        in.at = 1;
        int low = in.varint();
        Table table = new Table(low, in.varint(), new ArrayList<>(), new ArrayList<>());
        String before = "";
        for (int left = in.varint(); left > 0; left--) {
            int shared = in.varint();
            int head = in.varint();
            String name = in.text(before, shared, head / 4);
            int time = low + in.varint();
            Content content = switch (head % 4) {
                case 0 -> ABSENT;
                case 1 -> new Content(in.varint(), null);
                case 2 -> new Content(0, in.text("", 0, in.varint()));
                default -> throw new IndexOutOfBoundsException();
            };
            table.rows.add(new Row(name, time, content));
            before = name;
        }
        before = "";
        for (int left = in.varint(); left > 0; left--) {
            int shared = in.varint();
            String name = in.text(before, shared, in.varint());
            table.entries.add(new Entry(name, in.varint(), in.varint(), in.varint()));
            before = name;
        }
        return table;
    }

    private static boolean goodSymbols(String name) {
        return good(name) && name.chars().allMatch(symbol -> symbol <= 31);
    }

    private static boolean keepsItsRules(Table table) {
        if (table.low < 1 || table.low > table.high || table.high > 2000) {
            return false;
        }
        if (table.rows.size() > 30 || table.entries.size() > 40) {
            return false;
        }
        String before = "";
        for (Row row : table.rows) {
            if (!goodSymbols(row.name) || row.name.compareTo(before) <= 0 || row.time > table.high) {
                return false;
            }
            if (row.content.link != null && !goodSymbols(row.content.link)) {
                return false;
            }
            if (row.content.number > 65535) {
                return false;
            }
            before = row.name;
        }
        Entry last = new Entry("", 0, 0, 0);
        for (Entry entry : table.entries) {
            int order = entry.name.compareTo(last.name);
            if (!goodSymbols(entry.name) || order < 0 || order == 0 && entry.time >= last.time) {
                return false;
            }
            if (entry.time < table.low || entry.time > table.high) {
                return false;
            }
            if (entry.oldNumber > 65535 || entry.newNumber > 65535) {
                return false;
            }
            last = entry;
        }
        return true;
    }

    // ---- the stack

    private List<Table> readAll() {
        return new ArrayList<>(tables.stream().map(Model::read).toList());
    }

    boolean damaged() {
        return tables.stream().anyMatch(bytes -> read(bytes) == null);
    }

    private static Map<String, Row> highestRows(List<Table> tables) {
        Map<String, Row> rows = new TreeMap<>();
        for (Table table : tables) {
            for (Row row : table.rows) {
                rows.put(row.name, row);
            }
        }
        return rows;
    }

    private Content content(String name) {
        Row row = highestRows(readAll()).get(name);
        return row == null ? ABSENT : row.content;
    }

    /** The tables merged into one, or null when it would be too much for one. */
    private static int[] merge(List<Table> tables, boolean bottom, int time) {
        int low = tables.stream().mapToInt(Table::low).min().getAsInt();
        int high = tables.stream().mapToInt(Table::high).max().getAsInt();
        List<Row> rows = new ArrayList<>(highestRows(tables).values());
        if (bottom) {
            rows.removeIf(row -> row.content.absent());
        }
        Map<String, Entry> entries = new TreeMap<>();
        for (Table table : tables) {
            for (Entry entry : table.entries) {
                if (entry.time >= time) {
                    entries.put(entry.name + '\0' + (char) (5000 - entry.time), entry);
                }
            }
        }
        Table merged = new Table(low, high, rows, new ArrayList<>(entries.values()));
        int[] bytes = write(merged);
        boolean fits = rows.size() <= 30 && entries.size() <= 40 && bytes.length <= 1200;
        return fits ? bytes : null;
    }

    // ---- the face

    boolean begin() {
        if (changes != null) {
            return false;
        }
        changes = new ArrayList<>();
        return true;
    }

    private boolean change(long name, int expected, Content content) {
        if (changes == null || changes.size() == 6 || !good(name)) {
            return false;
        }
        String symbols = symbols(name);
        if (changes.stream().anyMatch(change -> change.name.equals(symbols))) {
            return false;
        }
        return changes.add(new Change(symbols, expected, content));
    }

    boolean update(long name, int expected, int number) {
        if (expected < -1 || expected > 65535 || number < 0 || number > 65535) {
            return false;
        }
        return change(name, expected, new Content(number, null));
    }

    boolean link(long name, long to) {
        return good(to) && name != to && change(name, -1, new Content(0, symbols(to)));
    }

    int commit() {
        if (changes == null) {
            return -1;
        }
        if (damaged()) {
            return -2;
        }
        List<Change> made = changes;
        changes = null;
        if (made.isEmpty()) {
            return 0;
        }
        int refusal = refusal(made);
        return refusal != 0 ? refusal : put(made);
    }

    private int refusal(List<Change> made) {
        for (int i = 0; i < made.size(); i++) {
            int expected = made.get(i).expected;
            if (expected != -1 && !content(made.get(i).name).equals(new Content(expected, null))) {
                return -100 * (i + 1) - 1;
            }
        }
        TreeSet<String> present = new TreeSet<>();
        for (Row row : highestRows(readAll()).values()) {
            if (!row.content.absent()) {
                present.add(row.name);
            }
        }
        for (Change change : made) {
            if (change.content.absent()) {
                present.remove(change.name);
            } else {
                present.add(change.name);
            }
        }
        for (int i = 0; i < made.size(); i++) {
            String name = made.get(i).name;
            if (present.contains(name)
                    && present.stream().anyMatch(other -> under(other, name) || under(name, other))) {
                return -100 * (i + 1) - 2;
            }
        }
        return 0;
    }

    private int put(List<Change> made) {
        List<Table> all = readAll();
        int time = all.stream().mapToInt(Table::high).max().orElse(0) + 1;
        Table added = new Table(time, time, new ArrayList<>(), new ArrayList<>());
        List<Change> sorted = new ArrayList<>(made);
        sorted.sort(Comparator.comparing(Change::name));
        for (Change change : sorted) {
            added.rows.add(new Row(change.name, time, change.content));
            if (change.content.link == null) {
                int before = content(change.name).number;
                added.entries.add(new Entry(change.name, time, before, change.content.number));
            }
        }
        all.add(added);
        int entries = all.stream().mapToInt(table -> table.entries.size()).sum();
        if (highestRows(all).size() > 16 || entries > 24 || time > 2000) {
            return -3;
        }
        List<int[]> result = new ArrayList<>(tables);
        result.add(write(added));
        while (result.size() >= 2
                && result.get(result.size() - 2).length < 2 * result.get(result.size() - 1).length) {
            List<int[]> two = result.subList(result.size() - 2, result.size());
            int[] merged = merge(two.stream().map(Model::read).toList(), result.size() == 2, 0);
            if (merged == null) {
                return -3;
            }
            two.clear();
            result.add(merged);
        }
        tables.clear();
        tables.addAll(result);
        return time;
    }

    int abort() {
        if (changes == null) {
            return -1;
        }
        int count = changes.size();
        changes = null;
        return count;
    }

    int get(long name) {
        if (damaged()) {
            return -2;
        }
        if (!good(name)) {
            return 0;
        }
        Content content = content(symbols(name));
        return content.link != null ? -4 : content.number;
    }

    long target(long name) {
        if (damaged()) {
            return -2;
        }
        Content content = good(name) ? content(symbols(name)) : ABSENT;
        return content.link == null ? 0 : name(content.link);
    }

    int resolve(long name) {
        if (damaged()) {
            return -2;
        }
        if (!good(name)) {
            return 0;
        }
        String at = symbols(name);
        for (int links = 0; links <= 5; links++) {
            Content content = content(at);
            if (content.link == null) {
                return content.number;
            }
            at = content.link;
        }
        return -4;
    }

    long scan(long prefix, int k) {
        if (damaged()) {
            return -2;
        }
        List<String> names = new ArrayList<>();
        for (Row row : highestRows(readAll()).values()) {
            if (!row.content.absent() && row.name.startsWith(symbols(prefix))) {
                names.add(row.name);
            }
        }
        return k >= 0 && k < names.size() ? name(names.get(k)) : 0;
    }

    int log(long name, int n, int what) {
        if (damaged()) {
            return -2;
        }
        List<Entry> entries = new ArrayList<>();
        for (int i = tables.size() - 1; i >= 0; i--) {
            for (Entry entry : read(tables.get(i)).entries) {
                if (name(entry.name) == name) {
                    entries.add(entry);
                }
            }
        }
        entries.sort(Comparator.comparing(entry -> -entry.time));
        if (n < 0 || n >= entries.size() || what < 0 || what > 2) {
            return -1;
        }
        Entry entry = entries.get(n);
        return what == 0 ? entry.time : what == 1 ? entry.oldNumber : entry.newNumber;
    }

    private int entriesInAll() {
        return readAll().stream().mapToInt(table -> table.entries.size()).sum();
    }

    /** 0, -2 or -3. */
    private int mergeAll(int time) {
        if (damaged()) {
            return -2;
        }
        if (tables.isEmpty()) {
            return 0;
        }
        int[] merged = merge(readAll(), true, time);
        if (merged == null) {
            return -3;
        }
        tables.clear();
        tables.add(merged);
        return 0;
    }

    int compact() {
        int before = tables.size();
        int answer = mergeAll(0);
        return answer < 0 ? answer : before;
    }

    int expire(int time) {
        if (damaged()) {
            return -2;
        }
        int before = entriesInAll();
        int answer = mergeAll(time);
        return answer < 0 ? answer : before - entriesInAll();
    }

    int tables() {
        return tables.size();
    }

    private boolean has(int table) {
        return table >= 0 && table < tables.size();
    }

    int size(int table) {
        return has(table) ? tables.get(table).length : -1;
    }

    int byteAt(int table, int k) {
        return has(table) && k >= 0 && k < size(table) ? tables.get(table)[k] : -1;
    }

    boolean damage(int table, int k, int b) {
        if (byteAt(table, k) < 0 || b < 0 || b > 255) {
            return false;
        }
        tables.set(table, tables.get(table).clone());
        tables.get(table)[k] = b;
        return true;
    }

    boolean sound(int table) {
        return has(table) && read(tables.get(table)) != null;
    }

    int records(int table) {
        return sound(table) ? read(tables.get(table)).rows.size() : -1;
    }
}
