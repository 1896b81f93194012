/** Promise 7: get. */
public final class Promise07GetTest {
    private static long n(String text) {
        return Name.of(text);
    }

    static void theNumberThatAReferenceHas(Due due) {
        int[] numbers = {1, 2, 127, 128, 16383, 16384, 65534, 65535};
        for (int number : numbers) {
            due.is("get", Calls.having("a=" + number).get(1), number);
        }
    }

    static void theLatestNumber(Due due) {
        RefStack x = Calls.having("a=1");
        for (int number = 2; number <= 20; number++) {
            Calls.change(x, "a=" + number);
            due.is("get", x.get(1), number);
        }
    }

    static void ofShortestAndLongestNames(Due due) {
        RefStack x = Calls.having("a=1", "#=2", "abcdefghijkl=3", "abcdefghijkm=4", "############=5");
        due.is("a", x.get(n("a")), 1);
        due.is("#", x.get(n("#")), 2);
        due.is("abcdefghijkl", x.get(n("abcdefghijkl")), 3);
        due.is("abcdefghijkm", x.get(n("abcdefghijkm")), 4);
        due.is("############", x.get(n("############")), 5);
    }

    static void zeroWhenAbsent(Due due) {
        due.is("without tables", new RefStack().get(1), 0);
        RefStack x = Calls.having("ab=5", "d=0");
        due.is("a longer name has one", x.get(n("a")), 0);
        due.is("a shorter name has one", x.get(n("abc")), 0);
        due.is("a record says so", x.get(n("d")), 0);
        Calls.change(x, "ab=0");
        due.is("no more", x.get(n("ab")), 0);
        x.compact();
        due.is("without a record", x.get(n("ab")), 0);
    }

    static void zeroWhenTheNameIsNotGood(Due due) {
        RefStack x = Calls.having("a=5", "abcdefghijkl=6");
        for (long name : Name.bad()) {
            due.is("get(" + Long.toHexString(name) + ")", x.get(name), 0);
        }
    }

    static void linked(Due due) {
        RefStack x = Calls.having("a=5", "b>a", "c>nowhere", "d>e", "e>d");
        due.is("to a number", x.get(n("b")), RefStack.LINKED);
        due.is("to an absent one", x.get(n("c")), RefStack.LINKED);
        due.is("round", x.get(n("d")), RefStack.LINKED);
        Calls.change(x, "b=65532", "a>b");
        due.is("no more", x.get(n("b")), 65532);
        due.is("now", x.get(n("a")), RefStack.LINKED);
    }

    static void theHighestTableCounts(Due due) {
        RefStack x = Edge.sixteenNames();
        Calls.change(x, "a=1", "b=0");
        due.is("tables", x.tables(), 2);
        due.is("a number above a link", x.get(n("a")), 1);
        due.is("absent above a link", x.get(n("b")), 0);
        due.is("the lower table alone", x.get(n("c")), RefStack.LINKED);
    }

    static void ofTheFirstAndTheLastOfThirtyRecords(Due due) {
        RefStack x = Craft.with(Edge.numbers(30));
        for (int i = 0; i < 30; i++) {
            due.is("get", x.get(n(Edge.nameOfRecord(i))), i + 1);
        }
        due.is("one more", x.get(n(Edge.nameOfRecord(30))), 0);
    }

    static void whatDamageLeftIsRead(Due due) {
        RefStack x = Craft.with(TableBytes.head(5, 9).varint(3).number(0, "ab", 4, 65535)
                .link(2, "c", 0, "ab").absent(3, "d", 0).varint(0).checked());
        due.is("ab", x.get(n("ab")), 65535);
        due.is("abc", x.get(n("abc")), RefStack.LINKED);
        due.is("abcd", x.get(n("abcd")), 0);
    }

    static void damagedBeforeAllElse(Due due) {
        for (int table = 0; table < 2; table++) {
            RefStack x = Calls.twoTables();
            x.damage(table, 0, 0);
            due.is("a number", x.get(n("b")), RefStack.DAMAGED);
            due.is("a link", x.get(n("abcdefghijkl")), RefStack.DAMAGED);
            due.is("absent", x.get(n("q")), RefStack.DAMAGED);
            due.is("not good", x.get(0), RefStack.DAMAGED);
            x.damage(table, 0, 82);
            due.is("mended", x.get(n("b")), 5);
        }
    }

    static void changesNothing(Due due) {
        RefStack x = Calls.twoTables();
        String before = Calls.shown(x);
        Calls.open(x, "b=6");
        due.is("the change is not seen yet", x.get(n("b")), 5);
        due.same("after it", Calls.shown(x), before);
        due.is("the transaction is open", x.abort(), 1);
    }

    public static void main(String[] args) {
        Due.runAll(Promise07GetTest.class);
    }
}
