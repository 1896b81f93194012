/** Promise 16: byteAt. */
public final class Promise16ByteAtTest {
    private static final int LEAST = Integer.MIN_VALUE;
    private static final int GREATEST = Integer.MAX_VALUE;
    private static final int[] NO_TABLES = {2, 3, 7, 8, 9, 10, 100, -1, -2, LEAST, GREATEST};

    static void everyByteOfATable(Due due) {
        RefStack x = Calls.twoTables();
        due.sameBytes(x, 1, TableBytes.head(2, 2).varint(1).number(0, "b", 0, 5)
                .varint(1).entry(0, "b", 2, 0, 5).checked());
        due.sameBytes(x, 0, TableBytes.head(1, 1).varint(2).link(0, "abcdefghijkl", 0, "############")
                .link(0, "bbcdefghijkl", 0, "a").varint(0).checked());
    }

    static void noneBeforeTheFirstAndBehindTheLast(Due due) {
        RefStack x = Calls.twoTables();
        due.is("byteAt(0, 0)", x.byteAt(0, 0), 82);
        due.is("byteAt(0, 51)", x.byteAt(0, 51) >= 0, true);
        due.is("byteAt(1, 17)", x.byteAt(1, 17) >= 0, true);
        for (int k : new int[] {-1, -2, LEAST, 52, 53, 1199, 1200, 1201, GREATEST}) {
            due.is("byteAt(0, " + k + ")", x.byteAt(0, k), RefStack.NONE);
        }
        due.is("byteAt(1, 18)", x.byteAt(1, 18), RefStack.NONE);
        due.is("byteAt(1, 51)", x.byteAt(1, 51), RefStack.NONE);
    }

    static void noneBehindATableThatBecameSmaller(Due due) {
        RefStack x = Calls.having("a=0", "b=0", "c=0");
        int before = x.size(0);
        x.expire(2);
        due.is("the last byte", x.byteAt(0, 6) >= 0, true);
        for (int k = 7; k <= before; k++) {
            due.is("byteAt(0, " + k + ")", x.byteAt(0, k), RefStack.NONE);
        }
    }

    static void ofTheLargestTable(Due due) {
        RefStack x = Edge.bytesInAll(1200);
        x.compact();
        due.is("byteAt(0, 0)", x.byteAt(0, 0), 82);
        due.is("byteAt(0, 1199)", x.byteAt(0, 1199) >= 0, true);
        due.is("byteAt(0, 1200)", x.byteAt(0, 1200), RefStack.NONE);
    }

    static void noneWhenThereIsNoTable(Due due) {
        due.is("without tables", new RefStack().byteAt(0, 0), RefStack.NONE);
        RefStack x = Calls.twoTables();
        for (int table : NO_TABLES) {
            due.is("byteAt(" + table + ", 0)", x.byteAt(table, 0), RefStack.NONE);
            due.is("byteAt(" + table + ", -1)", x.byteAt(table, -1), RefStack.NONE);
        }
        x.compact();
        due.is("one that was", x.byteAt(1, 0), RefStack.NONE);
    }

    static void noneChangesNothing(Due due) {
        RefStack x = Calls.twoTables();
        String before = Calls.shown(x);
        Calls.open(x, "a=1");
        for (int table : NO_TABLES) {
            x.byteAt(table, 0);
        }
        x.byteAt(0, -1);
        x.byteAt(0, 52);
        due.same("after it", Calls.shown(x), before);
        due.is("the transaction is open", x.abort(), 1);
    }

    static void whatDamageMadeOfIt(Due due) {
        RefStack x = Calls.twoTables();
        for (int b : new int[] {0, 1, 127, 128, 254, 255}) {
            x.damage(1, 17, b);
            due.is("byteAt(1, 17)", x.byteAt(1, 17), b);
        }
    }

    static void doesNotNameDamaged(Due due) {
        RefStack x = Calls.twoTables();
        x.damage(1, 0, 0);
        due.is("byteAt(1, 0)", x.byteAt(1, 0), 0);
        due.is("byteAt(1, 1)", x.byteAt(1, 1), 2);
        due.is("byteAt(0, 0)", x.byteAt(0, 0), 82);
        due.is("byteAt(1, 18)", x.byteAt(1, 18), RefStack.NONE);
    }

    public static void main(String[] args) {
        Due.runAll(Promise16ByteAtTest.class);
    }
}
