import java.util.ArrayList;
import java.util.List;

/** Long runs of mixed calls, every answer and every byte compared with those of the model. */
public final class ModelTest {
    private static final int RUNS = 1000;
    private static final int CALLS = 512;
    private static final String[] TEXTS = {
        "a", "b", "a/b", "a/c", "a/b/c", "ab", "abc", "abd", "abcdefghijkl", "abcdefghijkm", "a.b",
        "heads/main", "heads/next", "heads", "head", "#", "@z", "b/x", "b/y", "c", "abcde", "zzzzzzzzzzz/",
        "/a", "a//b", ".a", "a.", "a..b", "a/.b", "!a", "a!", "zzzzzzzzzz/z", "c/!"
    };

    private final RefStack x = new RefStack();
    private final Model model = new Model();
    private final Due due;
    private final int run;
    private final int names;
    private final int damageOdds;
    private long seed;
    private int calls;
    private int fulls;
    private int times;
    private int mostTables;

    private ModelTest(Due due, int run) {
        this.due = due;
        this.run = run;
        seed = run * 7919L + 17;
        names = 3 + below(TEXTS.length - 2);
        damageOdds = run % 3;
    }

    /** A number from 0 on below the bound, the same in each run of this test. */
    private int below(int bound) {
        seed = seed * 6364136223846793005L + 1442695040888963407L;
        return (int) ((seed >>> 33) % bound);
    }

    private boolean oneOf(int n) {
        return below(n) == 0;
    }

    private long name() {
        if (oneOf(30)) {
            return (long) below(1 << 30) << below(40) | below(1 << 30);
        }
        return Name.of(TEXTS[below(names)]);
    }

    private int number() {
        int[] edges = {0, 0, 1, 2, 3, 127, 128, 16383, 16384, 65535};
        return oneOf(40) ? below(2) * 65540 - 2 : edges[below(edges.length)];
    }

    private long check(String call, long got, long want) {
        calls++;
        due.is("run " + run + " call " + calls + " " + call, got, want);
        return got;
    }

    private boolean check(String call, boolean got, boolean want) {
        return check(call, got ? 1L : 0L, want ? 1L : 0L) == 1;
    }

    private void transaction() {
        check("begin", x.begin(), model.begin());
        int changes = oneOf(15) ? 0 : oneOf(3) ? 1 + below(7) : 1 + below(2);
        for (int i = 0; i < changes; i++) {
            change();
        }
        if (oneOf(20)) {
            check("abort", x.abort(), model.abort());
        }
        long answer = check("commit", x.commit(), model.commit());
        fulls += answer == RefStack.FULL ? 1 : 0;
        times += answer > 0 ? 1 : 0;
        if (answer == RefStack.FULL && oneOf(2)) {
            int time = below(200);
            check("expire", x.expire(time), model.expire(time));
        }
        mostTables = Math.max(mostTables, model.tables());
        compareTop();
    }

    private void change() {
        long name = name();
        if (oneOf(4)) {
            long to = name();
            check("link", x.link(name, to), model.link(name, to));
            return;
        }
        int expected = oneOf(3) ? Math.max(model.get(name), -1) : oneOf(8) ? number() : -1;
        int number = oneOf(4) ? 0 : number();
        check("update", x.update(name, expected, number), model.update(name, expected, number));
    }

    private void look() {
        long name = name();
        int n = below(5) - 1;
        switch (below(11)) {
            case 0 -> check("get", x.get(name), model.get(name));
            case 1 -> check("target", x.target(name), model.target(name));
            case 2 -> check("resolve", x.resolve(name), model.resolve(name));
            case 3 -> {
                long prefix = oneOf(3) ? 0 : oneOf(3) ? name & 31 : name;
                check("scan", x.scan(prefix, n), model.scan(prefix, n));
            }
            case 4, 5 -> {
                int what = below(5) - 1;
                check("log", x.log(name, n, what), model.log(name, n, what));
            }
            case 6 -> check("tables", x.tables(), model.tables());
            case 7 -> check("size", x.size(n), model.size(n));
            case 8 -> check("sound", x.sound(n), model.sound(n));
            case 9 -> check("records", x.records(n), model.records(n));
            default -> {
                int k = below(80) - 2;
                check("byteAt", x.byteAt(n, k), model.byteAt(n, k));
            }
        }
    }

    private void merge() {
        if (oneOf(2)) {
            check("compact", x.compact(), model.compact());
        } else {
            int time = oneOf(10) ? Integer.MIN_VALUE : below(12) * (1 + below(3));
            check("expire", x.expire(time), model.expire(time));
        }
        compareTop();
    }

    private void damage(int table, int k, int b) {
        check("damage", x.damage(table, k, b), model.damage(table, k, b));
        check("sound", x.sound(table), model.sound(table));
    }

    private void mendCheck(int table) {
        int[] bytes = model.tables.get(table);
        int[] body = java.util.Arrays.copyOf(bytes, bytes.length - 2);
        int[] whole = TableBytes.checked(body);
        damage(table, bytes.length - 2, whole[bytes.length - 2]);
        damage(table, bytes.length - 1, whole[bytes.length - 1]);
    }

    /** A byte becomes another one and the check is mended; if that isn't enough, it is undone. */
    private void harm() {
        if (model.tables.isEmpty()) {
            damage(0, 0, 0);
            return;
        }
        int table = below(model.tables.size());
        int k = below(model.tables.get(table).length - 2);
        int before = model.tables.get(table)[k];
        int b = oneOf(2) ? below(256) : Math.max(0, before + below(5) - 2);
        damage(table, k, b);
        mendCheck(table);
        if (model.damaged() && !oneOf(20)) {
            look();
            damage(table, k, before);
            mendCheck(table);
        }
    }

    private void compareByte(int table, int k) {
        check("byteAt(" + table + ", " + k + ")", x.byteAt(table, k), model.byteAt(table, k));
    }

    /** The size and the check of the highest table; so the bytes before the check are right, too. */
    private void compareTop() {
        int top = model.tables() - 1;
        check("size", x.size(top), model.size(top));
        compareByte(top, model.size(top) - 2);
        compareByte(top, model.size(top) - 1);
    }

    /** As many bytes as there are calls left. */
    private void compareTables() {
        for (int table = 0; table < model.tables() && calls < CALLS; table++) {
            check("size", x.size(table), model.size(table));
            for (int k = 0; k < model.size(table) && calls < CALLS; k++) {
                compareByte(table, k);
            }
        }
    }

    /** Begins with a table of random but well formed bytes, lowered onto what links left there. */
    private void craft() {
        int[] bytes = Model.write(randomTable());
        if (bytes.length < 13 || bytes.length > 240 || Model.read(bytes) == null) {
            return;
        }
        for (List<long[]> links : Craft.transactions(bytes.length)) {
            check("begin", x.begin(), model.begin());
            for (long[] link : links) {
                check("link", x.link(link[0], link[1]), model.link(link[0], link[1]));
            }
            check("commit", x.commit(), model.commit());
        }
        check("compact", x.compact(), model.compact());
        for (int k = 0; k < bytes.length; k++) {
            check("damage", x.damage(0, k, bytes[k]), model.damage(0, k, bytes[k]));
        }
        check("sound", x.sound(0), true);
    }

    private Model.Table randomTable() {
        int low = 1 + (oneOf(5) ? 1990 : below(200));
        int high = Math.min(2000, low + below(20));
        List<String> sorted = new ArrayList<>(java.util.Arrays.stream(TEXTS)
                .map(text -> Model.symbols(Name.of(text))).filter(Model::good).sorted().toList());
        List<Model.Row> rows = new ArrayList<>();
        List<Model.Entry> entries = new ArrayList<>();
        int odds = 1 + below(4);
        for (String name : sorted) {
            int time = low + below(high - low + 1);
            if (below(4) < odds) {
                int kind = below(4);
                String link = kind == 3 ? sorted.get(below(sorted.size())) : null;
                int number = kind == 0 || kind == 3 ? 0 : 1 + below(65535);
                rows.add(new Model.Row(name, time, new Model.Content(number, link)));
            }
            for (int t = high; t >= low && oneOf(3); t -= 1 + below(3)) {
                entries.add(new Model.Entry(name, t, below(300), below(300)));
            }
        }
        return new Model.Table(low, high, rows, entries);
    }

    private void runAll() {
        if (run % 4 == 0) {
            craft();
        }
        while (calls < CALLS - 120) {
            int choice = below(20);
            if (choice < 9) {
                transaction();
            } else if (choice < 17) {
                look();
            } else if (choice < 18 && oneOf(3)) {
                merge();
            } else if (oneOf(4) && damageOdds > 0) {
                harm();
            }
        }
        compareTables();
    }

    public static void main(String[] args) {
        Due due = new Due();
        int fulls = 0;
        int times = 0;
        int mostTables = 0;
        for (int run = 0; run < RUNS; run++) {
            ModelTest test = new ModelTest(due, run);
            test.runAll();
            fulls += test.fulls;
            times += test.times;
            mostTables = Math.max(mostTables, test.mostTables);
        }
        System.out.println(times + " commits done, " + fulls + " FULL, up to " + mostTables + " tables");
        due.end();
    }
}
