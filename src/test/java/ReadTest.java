/** Promises 7 to 11: get, target, resolve, scan and log. */
public final class ReadTest {
    private static final Due DUE = new Due();
    private static final long NO_NAME = 1 | 1L << 10;

    private static long n(String text) {
        return Name.of(text);
    }

    /** A transaction: texts of the form "name=number" or "name>name". */
    private static int change(RefStack x, String... changes) {
        x.begin();
        for (String change : changes) {
            if (change.indexOf('=') > 0) {
                String[] two = change.split("=");
                x.update(n(two[0]), RefStack.NONE, Integer.parseInt(two[1]));
            } else {
                String[] two = change.split(">");
                x.link(n(two[0]), n(two[1]));
            }
        }
        return x.commit();
    }

    private static void getAndTarget() {
        DUE.about("promises 7 and 8");
        RefStack x = new RefStack();
        change(x, "a=5", "b>a", "c=65535", "d=0", "e>f");
        DUE.is("get(a)", x.get(n("a")), 5);
        DUE.is("get(b)", x.get(n("b")), RefStack.LINKED);
        DUE.is("get(c)", x.get(n("c")), 65535);
        DUE.is("get(d)", x.get(n("d")), 0);
        DUE.is("get(e)", x.get(n("e")), RefStack.LINKED);
        DUE.is("get(f)", x.get(n("f")), 0);
        DUE.is("get(ab)", x.get(n("ab")), 0);
        DUE.is("get: no name", x.get(NO_NAME), 0);
        DUE.is("get: 0", x.get(0), 0);
        DUE.is("get: a with high bits", x.get(1 | 1L << 63), 0);
        DUE.is("target(a)", x.target(n("a")), 0);
        DUE.is("target(b)", x.target(n("b")), n("a"));
        DUE.is("target(d)", x.target(n("d")), 0);
        DUE.is("target(e)", x.target(n("e")), n("f"));
        DUE.is("target(f)", x.target(n("f")), 0);
        DUE.is("target: no name", x.target(n("b") | 1L << 60), 0);
        change(x, "b>abcdefghijkl");
        DUE.is("target of twelve symbols", x.target(n("b")), n("abcdefghijkl"));
        change(x, "b=3", "a>c");
        DUE.is("get(b) now", x.get(n("b")), 3);
        DUE.is("target(b) now", x.target(n("b")), 0);
        DUE.is("get(a) now", x.get(n("a")), RefStack.LINKED);
        DUE.is("target(a) now", x.target(n("a")), n("c"));
    }

    private static void higherTables() {
        DUE.about("the highest table");
        RefStack x = new RefStack();
        change(x, "azzzzzzzzzzz=1", "bzzzzzzzzzzz=2", "czzzzzzzzzzz=3", "dzzzzzzzzzzz=4");
        DUE.is("absent above", change(x, "bzzzzzzzzzzz=0"), 2);
        DUE.is("tables", x.tables(), 2);
        DUE.is("get(b)", x.get(n("bzzzzzzzzzzz")), 0);
        DUE.is("scan 1", x.scan(0, 1), n("czzzzzzzzzzz"));
        DUE.is("scan 3", x.scan(0, 3), 0);
        DUE.is("number above", change(x, "bzzzzzzzzzzz=9"), 3);
        DUE.is("tables", x.tables(), 2);
        DUE.is("get(b)", x.get(n("bzzzzzzzzzzz")), 9);
        DUE.is("scan 1", x.scan(0, 1), n("bzzzzzzzzzzz"));
        DUE.is("scan 3", x.scan(0, 3), n("dzzzzzzzzzzz"));
        DUE.is("log 0", x.log(n("bzzzzzzzzzzz"), 0, 0), 3);
        DUE.is("log 1", x.log(n("bzzzzzzzzzzz"), 1, 0), 2);
        DUE.is("log 2", x.log(n("bzzzzzzzzzzz"), 2, 0), 1);
        DUE.is("log 3", x.log(n("bzzzzzzzzzzz"), 3, 0), RefStack.NONE);
    }

    private static void resolve() {
        DUE.about("promise 9");
        RefStack x = new RefStack();
        change(x, "a>b", "b>c", "c>d", "d>e", "e>f", "f=77");
        DUE.is("no link", x.resolve(n("f")), 77);
        DUE.is("one link", x.resolve(n("e")), 77);
        DUE.is("five links", x.resolve(n("a")), 77);
        change(x, "z>a");
        DUE.is("six links", x.resolve(n("z")), RefStack.LINKED);
        change(x, "f=0");
        DUE.is("five links to an absent one", x.resolve(n("a")), 0);
        DUE.is("six links to an absent one", x.resolve(n("z")), RefStack.LINKED);
        change(x, "f>a");
        DUE.is("round and round", x.resolve(n("a")), RefStack.LINKED);
        change(x, "f>nowhere");
        DUE.is("to a name without a record", x.resolve(n("f")), 0);
        DUE.is("an absent one", x.resolve(n("q")), 0);
        DUE.is("no name", x.resolve(NO_NAME), 0);
        DUE.is("0", x.resolve(0), 0);
    }

    private static void scan() {
        DUE.about("promise 10");
        RefStack x = new RefStack();
        change(x, "b=1", "a/b=1", "ab=1", "a.b=1", "aa=0", "a/c>b");
        change(x, "az>b", "#=1", "abcdefghijkl=1", "abcdefghijk=1", "c=0");
        String[] order = {"ab", "abcdefghijk", "abcdefghijkl", "az", "a/b", "a/c", "a.b", "b", "#"};
        for (int k = 0; k < order.length; k++) {
            DUE.is("scan(0, " + k + ")", x.scan(0, k), n(order[k]));
            if (k < 7) {
                DUE.is("scan(a, " + k + ")", x.scan(n("a"), k), n(order[k]));
            }
            if (k < 3) {
                DUE.is("scan(ab, " + k + ")", x.scan(n("ab"), k), n(order[k]));
            }
        }
        DUE.is("scan(0, 9)", x.scan(0, 9), 0);
        DUE.is("scan(a, 7)", x.scan(n("a"), 7), 0);
        DUE.is("scan(ab, 3)", x.scan(n("ab"), 3), 0);
        DUE.is("scan(0, -1)", x.scan(0, -1), 0);
        DUE.is("scan(0, least)", x.scan(0, Integer.MIN_VALUE), 0);
        DUE.is("scan(0, greatest)", x.scan(0, Integer.MAX_VALUE), 0);
        DUE.is("scan(a/, 0)", x.scan(n("a/"), 0), n("a/b"));
        DUE.is("scan(a/, 1)", x.scan(n("a/"), 1), n("a/c"));
        DUE.is("scan(a/, 2)", x.scan(n("a/"), 2), 0);
        DUE.is("scan(/, 0)", x.scan(n("/"), 0), 0);
        DUE.is("scan(all twelve, 0)", x.scan(n("abcdefghijkl"), 0), n("abcdefghijkl"));
        DUE.is("scan(all twelve and bits 60 to 63, 0)", x.scan(n("abcdefghijkl") | 15L << 60, 0),
                n("abcdefghijkl"));
        DUE.is("scan(all twelve, 1)", x.scan(n("abcdefghijkl"), 1), 0);
        DUE.is("scan(ab, a gap, and more, 2)", x.scan(n("ab") | 5L << 20, 2), n("abcdefghijkl"));
        DUE.is("scan(0 and more, 8)", x.scan(5L << 5, 8), n("#"));
        DUE.is("scan(bits 60 to 63 alone, 0)", x.scan(1L << 63, 0), n("ab"));
        DUE.is("scan(c, 0)", x.scan(n("c"), 0), 0);
    }

    private static void log() {
        DUE.about("promise 11");
        RefStack x = new RefStack();
        change(x, "a=5", "b=1");
        change(x, "a=300");
        change(x, "a>b");
        change(x, "a=0", "c=9");
        int[][] log = {{4, 0, 0}, {2, 5, 300}, {1, 0, 5}};
        for (int i = 0; i < log.length; i++) {
            for (int what = 0; what < 3; what++) {
                DUE.is("log(a, " + i + ", " + what + ")", x.log(n("a"), i, what), log[i][what]);
            }
        }
        DUE.is("log(a, 3, 0)", x.log(n("a"), 3, 0), RefStack.NONE);
        DUE.is("log(a, -1, 0)", x.log(n("a"), -1, 0), RefStack.NONE);
        DUE.is("log(a, least, 0)", x.log(n("a"), Integer.MIN_VALUE, 0), RefStack.NONE);
        DUE.is("log(a, greatest, 0)", x.log(n("a"), Integer.MAX_VALUE, 0), RefStack.NONE);
        DUE.is("log(a, 0, -1)", x.log(n("a"), 0, -1), RefStack.NONE);
        DUE.is("log(a, 0, 3)", x.log(n("a"), 0, 3), RefStack.NONE);
        DUE.is("log(c, 0, 2)", x.log(n("c"), 0, 2), 9);
        DUE.is("log(c, 1, 2)", x.log(n("c"), 1, 2), RefStack.NONE);
        DUE.is("log(d, 0, 0)", x.log(n("d"), 0, 0), RefStack.NONE);
        DUE.is("log(no name, 0, 0)", x.log(NO_NAME, 0, 0), RefStack.NONE);
        DUE.is("log(0, 0, 0)", x.log(0, 0, 0), RefStack.NONE);
        DUE.is("log(a with high bits, 0, 0)", x.log(n("a") | 1L << 62, 0, 0), RefStack.NONE);
    }

    /** Entries of the lower table are later ones than, or at the same time as, the higher one's. */
    private static void logOfMixedTimes() {
        DUE.about("mixed times");
        int[] lower = TableBytes.head(1, 9).varint(1).number(0, "a", 0, 7)
                .varint(3).entry(0, "a", 8, 80, 81).entry(1, "", 5, 50, 51).entry(1, "", 1, 10, 11).checked();
        RefStack x = new RefStack();
        Craft.grow(x, lower.length);
        change(x, "z>#");
        DUE.is("tables", x.tables(), 2);
        int[] higher = TableBytes.head(5, 5).varint(0).varint(1).entry(0, "a", 5, 3, 4).checked();
        DUE.is("lengths", higher.length, x.size(1));
        Craft.overwrite(x, 1, higher);
        Craft.overwrite(x, 0, lower);
        int[][] log = {{8, 80, 81}, {5, 3, 4}, {5, 50, 51}, {1, 10, 11}};
        for (int i = 0; i < log.length; i++) {
            for (int what = 0; what < 3; what++) {
                DUE.is("log(a, " + i + ", " + what + ")", x.log(n("a"), i, what), log[i][what]);
            }
        }
        DUE.is("log(a, 4, 0)", x.log(n("a"), 4, 0), RefStack.NONE);
        DUE.is("expire: of the two at 5 one alone is kept, and 1 goes", x.expire(2), 2);
        DUE.is("the higher table's one", x.log(n("a"), 1, 2), 4);
        DUE.is("log(a, 2, 0)", x.log(n("a"), 2, 0), RefStack.NONE);
    }

    private static void damaged() {
        DUE.about("damaged");
        RefStack x = new RefStack();
        change(x, "azzzzzzzzzzz=1", "bzzzzzzzzzzz=2", "czzzzzzzzzzz=3");
        change(x, "d=1");
        DUE.is("tables", x.tables(), 2);
        for (int table = 0; table < 2; table++) {
            int before = x.byteAt(table, 1);
            x.damage(table, 1, 0);
            DUE.is("get", x.get(n("d")), RefStack.DAMAGED);
            DUE.is("get: no name", x.get(0), RefStack.DAMAGED);
            DUE.is("target", x.target(n("d")), RefStack.DAMAGED);
            DUE.is("target: no name", x.target(0), RefStack.DAMAGED);
            DUE.is("resolve", x.resolve(n("d")), RefStack.DAMAGED);
            DUE.is("resolve: no name", x.resolve(0), RefStack.DAMAGED);
            DUE.is("scan", x.scan(0, 0), RefStack.DAMAGED);
            DUE.is("scan: none such", x.scan(0, -1), RefStack.DAMAGED);
            DUE.is("log", x.log(n("d"), 0, 0), RefStack.DAMAGED);
            DUE.is("log: none such", x.log(0, -1, 7), RefStack.DAMAGED);
            x.damage(table, 1, before);
            DUE.is("get, mended", x.get(n("d")), 1);
        }
    }

    public static void main(String[] args) {
        getAndTarget();
        higherTables();
        resolve();
        scan();
        log();
        logOfMixedTimes();
        damaged();
        DUE.end();
    }
}
