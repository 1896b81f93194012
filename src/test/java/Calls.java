/** Rows of calls that many tests make. */
final class Calls {
    private Calls() {
    }

    static long n(String text) {
        return Name.of(text);
    }

    /**
     * Opens a transaction with these changes: "name=number", "name?expected=number" or "name>name".
     */
    static void open(RefStack x, String... changes) {
        must(x.begin());
        for (String change : changes) {
            must(make(x, change));
        }
    }

    private static boolean make(RefStack x, String change) {
        String[] two = change.split("[=>]");
        if (change.indexOf('>') >= 0) {
            return x.link(n(two[0]), n(two[1]));
        }
        String[] reference = two[0].split("\\?");
        int expected = reference.length == 1 ? RefStack.NONE : Integer.parseInt(reference[1]);
        return x.update(n(reference[0]), expected, Integer.parseInt(two[1]));
    }

    /** A whole transaction: what its commit answers. */
    static int change(RefStack x, String... changes) {
        open(x, changes);
        return x.commit();
    }

    /** A new object after one transaction. */
    static RefStack having(String... changes) {
        RefStack x = new RefStack();
        must(change(x, changes) == 1);
        return x;
    }

    /** Table 0 has two links and 52 bytes, table 1 the number 5 of "b", one entry and 18 bytes. */
    static RefStack twoTables() {
        RefStack x = having("abcdefghijkl>############", "bbcdefghijkl>a");
        must(change(x, "b=5") == 2);
        must(x.tables() == 2);
        return x;
    }

    /** All bytes of all tables. */
    static String shown(RefStack x) {
        StringBuilder text = new StringBuilder();
        for (int table = 0; table < x.tables(); table++) {
            text.append('[');
            int size = x.size(table);
            for (int k = 0; k < size; k++) {
                text.append(k == 0 ? "" : " ").append(x.byteAt(table, k));
            }
            text.append(']');
        }
        return text.toString();
    }

    static void must(boolean condition) {
        if (!condition) {
            throw new IllegalStateException("what a test builds on does not hold");
        }
    }
}
