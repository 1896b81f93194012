/** Promise 17: damage. */
public final class Promise17DamageTest {
    private static final int LEAST = Integer.MIN_VALUE;
    private static final int GREATEST = Integer.MAX_VALUE;

    private static long n(String text) {
        return Name.of(text);
    }

    static void byteKBecomesB(Due due) {
        for (int table = 0; table < 2; table++) {
            RefStack x = Calls.twoTables();
            for (int b : new int[] {0, 1, 127, 128, 254, 255}) {
                due.is("damage", x.damage(table, 3, b), true);
                due.is("byteAt", x.byteAt(table, 3), b);
            }
            due.is("the other table", x.sound(1 - table), true);
        }
    }

    static void noOtherByteChanges(Due due) {
        RefStack x = Calls.twoTables();
        int[] lower = Craft.bytesOf(x, 0);
        int[] higher = Craft.bytesOf(x, 1);
        due.is("the first", x.damage(1, 0, 200), true);
        due.is("the last", x.damage(1, 17, 201), true);
        due.is("one between", x.damage(0, 30, 202), true);
        higher[0] = 200;
        higher[17] = 201;
        lower[30] = 202;
        due.sameBytes(x, 0, lower);
        due.sameBytes(x, 1, higher);
    }

    static void bIsZeroTo255(Due due) {
        RefStack x = Calls.twoTables();
        String before = Calls.shown(x);
        for (int b : new int[] {-1, -2, -174, 256, 257, 338, 65536 + 82, LEAST, GREATEST}) {
            due.is("b = " + b, x.damage(0, 0, b), false);
        }
        due.same("after it", Calls.shown(x), before);
        due.is("sound", x.sound(0), true);
        due.is("b = 0", x.damage(0, 0, 0), true);
        due.is("b = 255", x.damage(0, 0, 255), true);
    }

    static void kIsThatOfAByte(Due due) {
        RefStack x = Calls.twoTables();
        String before = Calls.shown(x);
        for (int k : new int[] {-1, -2, LEAST, 52, 53, 1199, 1200, 1201, GREATEST}) {
            due.is("k = " + k, x.damage(0, k, 0), false);
        }
        due.is("k = 18 in table 1", x.damage(1, 18, 0), false);
        due.same("after it", Calls.shown(x), before);
        due.is("k = 51", x.damage(0, 51, 0), true);
        due.is("k = 17 in table 1", x.damage(1, 17, 0), true);
    }

    static void falseWhenThereIsNoTable(Due due) {
        due.is("without tables", new RefStack().damage(0, 0, 0), false);
        RefStack x = Calls.twoTables();
        String before = Calls.shown(x);
        for (int table : new int[] {2, 3, 7, 8, 9, 10, 100, -1, -2, LEAST, GREATEST}) {
            due.is("table " + table, x.damage(table, 0, 0), false);
        }
        due.same("after it", Calls.shown(x), before);
        due.is("sound", x.sound(0) && x.sound(1), true);
        x.compact();
        due.is("one that was", x.damage(1, 0, 0), false);
        due.is("get", x.get(n("b")), 5);
    }

    static void theSameByteChangesNothing(Due due) {
        RefStack x = Calls.twoTables();
        due.is("damage", x.damage(0, 0, 82), true);
        due.is("sound", x.sound(0), true);
        due.is("target", x.target(n("abcdefghijkl")), n("############"));
    }

    static void theByteBackMendsIt(Due due) {
        RefStack x = Calls.twoTables();
        for (int k = 0; k < 18; k++) {
            int before = x.byteAt(1, k);
            due.is("damage", x.damage(1, k, before ^ 255), true);
            due.is("get", x.get(n("b")), RefStack.DAMAGED);
            due.is("back", x.damage(1, k, before), true);
            due.is("get again", x.get(n("b")), 5);
            due.is("log again", x.log(n("b"), 0, 2), 5);
        }
    }

    static void anyOneBitMakesItUnsound(Due due) {
        for (int half = 0; half < 2; half++) {
            RefStack x = Calls.twoTables();
            for (int k = 9 * half; k < 9 * half + 9; k++) {
                int before = x.byteAt(1, k);
                for (int bit = 0; bit < 8; bit++) {
                    x.damage(1, k, before ^ 1 << bit);
                    due.is("sound with bit " + bit + " of byte " + k, x.sound(1), false);
                }
                x.damage(1, k, before);
                due.is("sound again", x.sound(1), true);
            }
        }
    }

    static void anotherTableInItsPlace(Due due) {
        RefStack x = Calls.twoTables();
        Craft.overwrite(x, 1, TableBytes.head(7, 7).varint(1).number(0, "b", 0, 6)
                .varint(1).entry(0, "c", 7, 8, 9).checked());
        due.is("sound", x.sound(1), true);
        due.is("get", x.get(n("b")), 6);
        due.is("log(b)", x.log(n("b"), 0, 0), RefStack.NONE);
        due.is("log(c)", x.log(n("c"), 0, 1), 8);
        due.is("the next time", Calls.change(x, "b?6=7"), 8);
    }

    static void theLastByteOfTheLargestTable(Due due) {
        RefStack x = Edge.bytesInAll(1200);
        x.compact();
        int before = x.byteAt(0, 1199);
        due.is("damage", x.damage(0, 1199, before ^ 1), true);
        due.is("sound", x.sound(0), false);
        due.is("one behind it", x.damage(0, 1200, 0), false);
        due.is("back", x.damage(0, 1199, before), true);
        due.is("sound again", x.sound(0), true);
        due.is("read again", x.scan(0, 29), Edge.longName(15));
    }

    static void anOpenTransactionStaysAsItIs(Due due) {
        RefStack x = Calls.twoTables();
        Calls.open(x, "a=1");
        due.is("damage", x.damage(0, 0, 0), true);
        due.is("begin", x.begin(), false);
        due.is("abort", x.abort(), 1);
    }

    public static void main(String[] args) {
        Due.runAll(Promise17DamageTest.class);
    }
}
