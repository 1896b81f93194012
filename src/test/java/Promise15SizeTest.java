/** Promise 15: size. */
public final class Promise15SizeTest {
    private static final int[] NO_TABLES = {2, 3, 7, 8, 9, 10, 100, -1, -2, Integer.MIN_VALUE, Integer.MAX_VALUE};

    static void howManyBytesATableHas(Due due) {
        RefStack x = Calls.twoTables();
        due.is("table 0", x.size(0), 52);
        due.is("table 1", x.size(1), 18);
        due.is("a link", Calls.having("a>#").size(0), 13);
        due.is("a longer link", Calls.having("abcdefghijkl>############").size(0), 35);
        due.is("an absent one", Calls.having("a=0").size(0), 17);
        due.is("a number of two bytes", Calls.having("a=128").size(0), 20);
        due.is("a number of three bytes", Calls.having("a=16384").size(0), 22);
    }

    static void theSmallestTable(Due due) {
        RefStack x = Calls.having("a=0");
        x.expire(2);
        due.is("no record, no entry", x.size(0), 7);
    }

    static void theLargestTable(Due due) {
        RefStack x = Edge.bytesInAll(1200);
        x.compact();
        due.is("1200", x.size(0), 1200);
    }

    static void noneWhenThereIsNone(Due due) {
        due.is("without tables", new RefStack().size(0), RefStack.NONE);
        RefStack x = Calls.twoTables();
        for (int table : NO_TABLES) {
            due.is("size(" + table + ")", x.size(table), RefStack.NONE);
        }
        x.compact();
        due.is("one that was", x.size(1), RefStack.NONE);
        due.is("the one that is", x.size(0) > 0, true);
    }

    static void noneAboveSevenTables(Due due) {
        SevenTables seven = new SevenTables(due);
        due.is("size(6)", seven.x.size(6), 13);
        due.is("size(7)", seven.x.size(7), RefStack.NONE);
    }

    static void noneChangesNothing(Due due) {
        RefStack x = Calls.twoTables();
        String before = Calls.shown(x);
        Calls.open(x, "a=1");
        for (int table : NO_TABLES) {
            x.size(table);
        }
        due.same("after it", Calls.shown(x), before);
        due.is("the transaction is open", x.abort(), 1);
    }

    static void doesNotNameDamaged(Due due) {
        RefStack x = Calls.twoTables();
        for (int k = 0; k < 18; k++) {
            x.damage(1, k, 255);
        }
        due.is("size(1)", x.size(1), 18);
        due.is("size(0)", x.size(0), 52);
        due.is("size(2)", x.size(2), RefStack.NONE);
    }

    public static void main(String[] args) {
        Due.runAll(Promise15SizeTest.class);
    }
}
