/** Promise 9: resolve. */
public final class Promise09ResolveTest {
    private static long n(String text) {
        return Name.of(text);
    }

    /** Links g to f to e to d to c to b to a, which has 77. */
    private static RefStack chain() {
        RefStack x = Calls.having("a=77", "b>a", "c>b", "d>c", "e>d", "f>e");
        Calls.change(x, "g>f", "h>g");
        return x;
    }

    static void theNumberThatIsComeTo(Due due) {
        RefStack x = chain();
        due.is("no link", x.resolve(n("a")), 77);
        due.is("one link", x.resolve(n("b")), 77);
        due.is("two links", x.resolve(n("c")), 77);
        due.is("three links", x.resolve(n("d")), 77);
        due.is("four links", x.resolve(n("e")), 77);
    }

    static void fiveLinksButNotSix(Due due) {
        RefStack x = chain();
        due.is("five links", x.resolve(n("f")), 77);
        due.is("six links", x.resolve(n("g")), RefStack.LINKED);
        due.is("seven links", x.resolve(n("h")), RefStack.LINKED);
    }

    static void leastAndGreatestNumbers(Due due) {
        RefStack x = Calls.having("a=1", "b>a", "c=65535", "d>c", "e=65532", "f>e");
        due.is("1", x.resolve(n("b")), 1);
        due.is("65535", x.resolve(n("d")), 65535);
        due.is("65532", x.resolve(n("f")), 65532);
    }

    static void overShortestAndLongestNames(Due due) {
        RefStack x = Calls.having("a>abcdefghijkl", "abcdefghijkl>############", "############=7");
        due.is("resolve", x.resolve(n("a")), 7);
    }

    static void zeroWhenTheEndIsAbsent(Due due) {
        due.is("without tables", new RefStack().resolve(1), 0);
        RefStack x = chain();
        due.is("no record", x.resolve(n("q")), 0);
        Calls.change(x, "a=0", "q>nowhere");
        due.is("no link", x.resolve(n("a")), 0);
        due.is("one link", x.resolve(n("b")), 0);
        due.is("five links", x.resolve(n("f")), 0);
        due.is("six links: the end is not come to", x.resolve(n("g")), RefStack.LINKED);
        due.is("a link to a name without a record", x.resolve(n("q")), 0);
    }

    static void zeroWhenTheNameIsNotGood(Due due) {
        RefStack x = Calls.having("a>b", "abcdefghijkl>b", "b=5");
        for (long name : Name.bad()) {
            due.is("resolve(" + Long.toHexString(name) + ")", x.resolve(name), 0);
        }
    }

    static void linkedWhenItGoesRound(Due due) {
        RefStack x = Calls.having("a>b", "b>a", "c>d", "d>e", "e>c", "f>a");
        for (String name : new String[] {"a", "b", "c", "d", "e", "f"}) {
            due.is("resolve(" + name + ")", x.resolve(n(name)), RefStack.LINKED);
        }
    }

    static void linkedWhenALinkLeadsToItself(Due due) {
        RefStack x = Craft.with(TableBytes.head(1, 1).varint(1).link(0, "ab", 0, "ab").varint(0).checked());
        due.is("resolve", x.resolve(n("ab")), RefStack.LINKED);
    }

    static void linksOfSeveralTables(Due due) {
        RefStack x = Edge.sixteenNames();
        Calls.change(x, "a>b", "b=9");
        due.is("tables", x.tables(), 2);
        due.is("over the higher one", x.resolve(n("a")), 9);
        due.is("over the lower one", x.resolve(n("c")), 0);
        Calls.change(x, "c>b");
        due.is("over both", x.resolve(n("c")), 9);
    }

    static void damagedBeforeAllElse(Due due) {
        for (int table = 0; table < 2; table++) {
            RefStack x = Calls.twoTables();
            x.damage(table, 0, 0);
            due.is("a number", x.resolve(n("b")), RefStack.DAMAGED);
            due.is("a link", x.resolve(n("abcdefghijkl")), RefStack.DAMAGED);
            due.is("absent", x.resolve(n("q")), RefStack.DAMAGED);
            due.is("not good", x.resolve(0), RefStack.DAMAGED);
            x.damage(table, 0, 82);
            due.is("mended", x.resolve(n("b")), 5);
        }
    }

    static void changesNothing(Due due) {
        RefStack x = Calls.twoTables();
        String before = Calls.shown(x);
        Calls.open(x, "a=6");
        due.is("the change is not seen yet", x.resolve(n("bbcdefghijkl")), 0);
        due.same("after it", Calls.shown(x), before);
        due.is("the transaction is open", x.abort(), 1);
    }

    public static void main(String[] args) {
        Due.runAll(Promise09ResolveTest.class);
    }
}
