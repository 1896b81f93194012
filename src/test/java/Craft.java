import java.util.ArrayList;
import java.util.List;

/** Brings tables with given bytes about, through commits for the length and damage for the bytes. */
final class Craft {
    private Craft() {
    }

    /** An object that has just one table, with these bytes (13 to 455 of them). */
    static RefStack with(int[] bytes) {
        RefStack x = new RefStack();
        grow(x, bytes.length);
        overwrite(x, 0, bytes);
        return x;
    }

    /**
     * An object that has two tables, with these bytes: the higher one 13 to 175 of them, the lower
     * one at least twice as many.
     */
    static RefStack with(int[] lower, int[] higher) {
        RefStack x = new RefStack();
        grow(x, lower.length);
        List<List<long[]>> all = transactions(higher.length);
        Calls.must(all.size() == 1);
        commit(x, all.get(0));
        Calls.must(x.tables() == 2);
        overwrite(x, 1, higher);
        overwrite(x, 0, lower);
        return x;
    }

    /** Gives an object without tables one table of so many bytes. */
    static void grow(RefStack x, int size) {
        for (List<long[]> links : transactions(size)) {
            commit(x, links);
        }
        Calls.must(x.compact() >= 1);
        Calls.must(x.tables() == 1 && x.size(0) == size);
    }

    private static void commit(RefStack x, List<long[]> links) {
        Calls.must(x.begin());
        for (long[] link : links) {
            Calls.must(x.link(link[0], link[1]));
        }
        Calls.must(x.commit() > 0);
    }

    /** Links by transactions that compact to a table of so many bytes. */
    static List<List<long[]>> transactions(int size) {
        int rest = size - 7;
        List<List<long[]>> all = new ArrayList<>();
        int records = (rest + 27) / 28;
        for (int i = 0; i < records; i++) {
            if (i % 6 == 0) {
                all.add(new ArrayList<>());
            }
            int take = Math.max(6, Math.min(28, rest - 6 * (records - 1 - i)));
            rest -= take;
            String first = String.valueOf((char) ('a' + i));
            int nameLength = Math.min(12, take - 5);
            String name = first + "z".repeat(nameLength - 1);
            String to = "#".repeat(take - 4 - nameLength);
            all.get(all.size() - 1).add(new long[] {Name.of(name), Name.of(to)});
        }
        Calls.must(rest == 0);
        return all;
    }

    /** Makes the bytes of a table of the same length these ones. */
    static void overwrite(RefStack x, int table, int[] bytes) {
        Calls.must(x.size(table) == bytes.length);
        for (int k = 0; k < bytes.length; k++) {
            Calls.must(x.damage(table, k, bytes[k]));
        }
    }

    static int[] bytesOf(RefStack x, int table) {
        int[] bytes = new int[x.size(table)];
        for (int k = 0; k < bytes.length; k++) {
            bytes[k] = x.byteAt(table, k);
        }
        return bytes;
    }
}
