/** Promise 10: scan. */
public final class Promise10ScanTest {
    private static final String[] ORDER = {
        "ab", "abcdefghijk", "abcdefghijkl", "az", "a/b", "a/c", "a.b", "a!", "b", "@", "#"
    };

    private static long n(String text) {
        return Name.of(text);
    }

    private static RefStack names() {
        RefStack x = Calls.having("b=1", "a/b=1", "ab=1", "a.b=1", "aa=0", "a/c>b");
        Calls.must(Calls.change(x, "az>b", "#=1", "abcdefghijkl=1", "abcdefghijk=1", "c=0", "@=1") == 2);
        Calls.must(Calls.change(x, "a!=1") == 3);
        return x;
    }

    /** The names with the prefix are just these, and none is behind them. */
    private static void are(Due due, RefStack x, long prefix, String... texts) {
        String shown = Long.toHexString(prefix);
        for (int k = 0; k < texts.length; k++) {
            due.is("scan(" + shown + ", " + k + ")", x.scan(prefix, k), n(texts[k]));
        }
        due.is("scan(" + shown + ", behind all)", x.scan(prefix, texts.length), 0);
        due.is("scan(" + shown + ", -1)", x.scan(prefix, -1), 0);
    }

    static void theKthNameInOrder(Due due) {
        are(due, names(), 0, ORDER);
    }

    static void namesThatBeginWithThePrefix(Due due) {
        RefStack x = names();
        are(due, x, n("a"), "ab", "abcdefghijk", "abcdefghijkl", "az", "a/b", "a/c", "a.b", "a!");
        are(due, x, n("ab"), "ab", "abcdefghijk", "abcdefghijkl");
        are(due, x, n("abc"), "abcdefghijk", "abcdefghijkl");
        are(due, x, n("b"), "b");
        are(due, x, n("#"), "#");
        are(due, x, n("d"));
        are(due, x, n("bb"));
    }

    static void aPrefixNeedNotBeGood(Due due) {
        RefStack x = names();
        are(due, x, n("a/"), "a/b", "a/c");
        are(due, x, n("a."), "a.b");
        are(due, x, n("/"));
        are(due, x, n("!"));
        are(due, x, n("a//"));
    }

    static void aPrefixOfTwelveSymbols(Due due) {
        RefStack x = names();
        are(due, x, n("abcdefghijkl"), "abcdefghijkl");
        are(due, x, n("abcdefghijkm"));
        are(due, x, n("abcdefghijk"), "abcdefghijk", "abcdefghijkl");
    }

    static void onlySymbolsUpToTheFirst0Count(Due due) {
        RefStack x = names();
        are(due, x, n("ab") | 5L << 15, "ab", "abcdefghijk", "abcdefghijkl");
        are(due, x, n("ab") | 31L << 55, "ab", "abcdefghijk", "abcdefghijkl");
        are(due, x, n("b") | 1L << 10, "b");
        are(due, x, 5L << 5, ORDER);
        are(due, x, 1L << 59, ORDER);
    }

    static void bits60To63DoNotCount(Due due) {
        RefStack x = names();
        for (int bit = 60; bit < 64; bit++) {
            due.is("none else", x.scan(1L << bit, 0), n("ab"));
            due.is("behind one symbol", x.scan(n("b") | 1L << bit, 0), n("b"));
            due.is("behind twelve", x.scan(n("abcdefghijkl") | 1L << bit, 0), n("abcdefghijkl"));
            due.is("behind twelve others", x.scan(n("abcdefghijkm") | 1L << bit, 0), 0);
        }
        due.is("-1 is twelve of 31", x.scan(-1, 0), 0);
        Calls.change(x, "############=1");
        due.is("-1 with such a name", x.scan(-1, 0), n("############"));
    }

    static void leastAndGreatestK(Due due) {
        RefStack x = names();
        for (int k : new int[] {-1, -2, Integer.MIN_VALUE, 11, 12, 65536, Integer.MAX_VALUE}) {
            due.is("scan(0, " + k + ")", x.scan(0, k), 0);
        }
        due.is("scan(0, 10)", x.scan(0, 10), n("#"));
    }

    static void zeroWithoutTables(Due due) {
        RefStack x = new RefStack();
        due.is("scan(0, 0)", x.scan(0, 0), 0);
        due.is("scan(a, 0)", x.scan(1, 0), 0);
    }

    static void absentOnesAreLeftOut(Due due) {
        RefStack x = Edge.sixteenNames();
        Calls.change(x, "a=0", "c=0", "p=0");
        due.is("tables", x.tables(), 2);
        are(due, x, 0, "b", "d", "e", "f", "g", "h", "i", "j", "k", "l", "m", "n", "o");
        are(due, x, n("a"));
        Calls.change(x, "c=1");
        due.is("c again", x.scan(0, 1), n("c"));
    }

    static void aNameOfSeveralTablesIsThereOnce(Due due) {
        RefStack x = Edge.sixteenNames();
        Calls.change(x, "b=1", "c>z");
        due.is("tables", x.tables(), 2);
        are(due, x, 0, "a", "b", "c", "d", "e", "f", "g", "h", "i", "j", "k", "l", "m", "n", "o", "p");
    }

    static void numbersAndLinksAlike(Due due) {
        are(due, Calls.having("a=1", "b>a", "c>nowhere", "d=0"), 0, "a", "b", "c");
    }

    static void allOfThirtyRecords(Due due) {
        RefStack x = Craft.with(Edge.numbers(30));
        for (int k = 0; k < 30; k++) {
            due.is("scan", x.scan(0, k), n(Edge.nameOfRecord(k)));
        }
        due.is("scan(0, 30)", x.scan(0, 30), 0);
        due.is("scan(#, 2)", x.scan(n("#"), 2), n("#b"));
        due.is("scan(#, 3)", x.scan(n("#"), 3), 0);
        x = Edge.thirtyRecordsAnd("cc", 1);
        due.is("31 names of two tables", x.scan(0, 30), n("#b"));
        due.is("scan(0, 31)", x.scan(0, 31), 0);
    }

    static void allOf54NamesOfTwoTables(Due due) {
        String[] names = new String[54];
        for (int i = 0; i < 54; i++) {
            names[i] = Edge.nameOfTwo(i);
        }
        java.util.Arrays.sort(names);
        are(due, Edge.thirtyAnd24Records(), 0, names);
    }

    static void damagedBeforeAllElse(Due due) {
        for (int table = 0; table < 2; table++) {
            RefStack x = Calls.twoTables();
            x.damage(table, 0, 0);
            due.is("scan", x.scan(0, 0), RefStack.DAMAGED);
            due.is("none such", x.scan(n("q"), 0), RefStack.DAMAGED);
            due.is("k below 0", x.scan(0, -1), RefStack.DAMAGED);
            due.is("not good", x.scan(-1, 9), RefStack.DAMAGED);
            x.damage(table, 0, 82);
            due.is("mended", x.scan(0, 1), n("b"));
        }
    }

    static void changesNothing(Due due) {
        RefStack x = Calls.twoTables();
        String before = Calls.shown(x);
        Calls.open(x, "a=6");
        due.is("the change is not seen yet", x.scan(0, 0), n("abcdefghijkl"));
        due.same("after it", Calls.shown(x), before);
        due.is("the transaction is open", x.abort(), 1);
    }

    public static void main(String[] args) {
        Due.runAll(Promise10ScanTest.class);
    }
}
