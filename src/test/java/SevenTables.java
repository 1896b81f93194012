/** The highest stack that can be, seven tables, brought about in an object and in a model of it. */
final class SevenTables {
    final RefStack x = new RefStack();
    final Model model = new Model();
    private final Due due;

    SevenTables(Due due) {
        this.due = due;
        lowest();
        sizesAre(840);
        links(0, 6, 168);
        links(6, 4, 104);
        links(10, 5, 137);
        sizesAre(840, 416);
        links(7, 4, 112);
        links(11, 4, 89);
        sizesAre(840, 416, 208);
        links(0, 4, 97);
        links(4, 2, 45);
        links(6, 1, 19);
        shortLink();
        sizesAre(840, 416, 208, 104, 52, 26, 13);
    }

    private static long longName(int i) {
        return Edge.longName(i);
    }

    private void begin() {
        due.is("begin", x.begin(), model.begin());
    }

    private void update(long name, int number) {
        due.is("update", x.update(name, RefStack.NONE, number), model.update(name, RefStack.NONE, number));
    }

    private void link(long name, int toLength) {
        long to = Name.of("#".repeat(toLength));
        due.is("link", x.link(name, to), model.link(name, to));
    }

    private void commit() {
        int answer = x.commit();
        due.is("commit", answer, model.commit());
        due.is("commit is done", answer > 0, true);
    }

    private void compact() {
        due.is("compact", x.compact(), model.compact());
    }

    private void updates(int first, int count, int number) {
        begin();
        for (int i = first; i < first + count; i++) {
            update(longName(i), number);
        }
        commit();
    }

    /** Links of so many long names, their records having so many bytes in all. */
    private void links(int first, int count, int bytes) {
        int rest = bytes;
        begin();
        for (int i = first; i < first + count; i++) {
            int take = Math.min(28, rest - 17 * (first + count - 1 - i));
            rest -= take;
            link(longName(i), take - 16);
        }
        due.is("bytes left", rest, 0);
        commit();
    }

    private void shortLink() {
        begin();
        link(Name.of("z"), 1);
        commit();
    }

    /** As large as the lowest table can be made: long names, old numbers of three bytes. */
    private void lowest() {
        for (int i = 0; i < 15; i += 5) {
            updates(i, 5, 60000);
        }
        due.is("expire", x.expire(2000), model.expire(2000));
        for (int i = 0; i < 15; i += 5) {
            updates(i, 5, 60001);
        }
        updates(0, 6, 60002);
        updates(6, 3, 60002);
        for (int i = 0; i < 15; i += 5) {
            links(i, 5, 5 * 28);
        }
        begin();
        link(Name.of("z"), 12);
        commit();
        compact();
    }

    void sizesAre(int... sizes) {
        due.is("tables", x.tables(), sizes.length);
        for (int table = 0; table < sizes.length; table++) {
            due.is("size(" + table + ")", x.size(table), sizes[table]);
        }
    }

    /** What the tables say, and the check of each one. */
    void compareAll() {
        for (int table = 0; table < model.tables(); table++) {
            due.is("size(" + table + ")", x.size(table), model.size(table));
            due.is("records(" + table + ")", x.records(table), model.records(table));
            for (int end = 1; end <= 2; end++) {
                int k = model.size(table) - end;
                due.is("byteAt(" + table + ", " + k + ")", x.byteAt(table, k), model.byteAt(table, k));
            }
        }
        for (int i = 0; i < 16; i++) {
            due.is("scan(0, " + i + ")", x.scan(0, i), model.scan(0, i));
            due.is("target", x.target(longName(i)), model.target(longName(i)));
            due.is("log 0", x.log(longName(i), 0, 2), model.log(longName(i), 0, 2));
            due.is("log 1", x.log(longName(i), 1, 1), model.log(longName(i), 1, 1));
        }
    }

    /** A commit after which the seven tables and its own are one. */
    void commitThatMergesAll() {
        begin();
        for (int i : new int[] {2, 3, 5, 6, 13, 14}) {
            link(longName(i), 12);
        }
        commit();
    }
}
