/** Promise 8: target. */
public final class Promise08TargetTest {
    private static long n(String text) {
        return Name.of(text);
    }

    static void theNameToWhichItHasALink(Due due) {
        for (String to : Name.GOOD) {
            RefStack x = Calls.having("zz>" + to);
            due.is("target", x.target(n("zz")), n(to));
        }
    }

    static void ofShortestAndLongestNames(Due due) {
        RefStack x = Calls.having("a>b", "#>c", "abcdefghijkl>d", "abcdefghijkm>e", "############>f");
        due.is("a", x.target(n("a")), n("b"));
        due.is("#", x.target(n("#")), n("c"));
        due.is("abcdefghijkl", x.target(n("abcdefghijkl")), n("d"));
        due.is("abcdefghijkm", x.target(n("abcdefghijkm")), n("e"));
        due.is("############", x.target(n("############")), n("f"));
    }

    static void theNextNameAlone(Due due) {
        RefStack x = Calls.having("a>b", "b>c", "c=5");
        due.is("of a link to a link", x.target(n("a")), n("b"));
    }

    static void zeroWhenItHasNone(Due due) {
        due.is("without tables", new RefStack().target(1), 0);
        RefStack x = Calls.having("a=5", "b>a", "d=0", "ef>a");
        due.is("a number", x.target(n("a")), 0);
        due.is("a record says absent", x.target(n("d")), 0);
        due.is("no record", x.target(n("q")), 0);
        due.is("a longer name has one", x.target(n("e")), 0);
        due.is("a shorter name has one", x.target(n("efg")), 0);
        Calls.change(x, "b=65535");
        due.is("a number now", x.target(n("b")), 0);
        Calls.change(x, "b>a");
        Calls.change(x, "b=0");
        due.is("absent now", x.target(n("b")), 0);
    }

    static void zeroWhenTheNameIsNotGood(Due due) {
        RefStack x = Calls.having("a>b", "abcdefghijkl>b");
        for (long name : Name.bad()) {
            due.is("target(" + Long.toHexString(name) + ")", x.target(name), 0);
        }
    }

    static void theHighestTableCounts(Due due) {
        RefStack x = Edge.sixteenNames();
        Calls.change(x, "a=1", "b=0", "c>z");
        due.is("tables", x.tables(), 2);
        due.is("a number above a link", x.target(n("a")), 0);
        due.is("absent above a link", x.target(n("b")), 0);
        due.is("a link above a link", x.target(n("c")), n("z"));
        due.is("the lower table alone", x.target(n("d")), n("#"));
    }

    static void whatDamageLeftIsRead(Due due) {
        RefStack x = Craft.with(TableBytes.head(5, 9).varint(2).link(0, "ab", 4, "abcdefghijkl")
                .link(2, "c", 0, "abc").varint(0).checked());
        due.is("ab", x.target(n("ab")), n("abcdefghijkl"));
        due.is("abc, a link to itself", x.target(n("abc")), n("abc"));
    }

    static void damagedBeforeAllElse(Due due) {
        for (int table = 0; table < 2; table++) {
            RefStack x = Calls.twoTables();
            x.damage(table, 0, 0);
            due.is("a link", x.target(n("abcdefghijkl")), RefStack.DAMAGED);
            due.is("a number", x.target(n("b")), RefStack.DAMAGED);
            due.is("absent", x.target(n("q")), RefStack.DAMAGED);
            due.is("not good", x.target(0), RefStack.DAMAGED);
            x.damage(table, 0, 82);
            due.is("mended", x.target(n("abcdefghijkl")), n("############"));
        }
    }

    static void changesNothing(Due due) {
        RefStack x = Calls.twoTables();
        String before = Calls.shown(x);
        Calls.open(x, "bbcdefghijkl>c");
        due.is("the change is not seen yet", x.target(n("bbcdefghijkl")), n("a"));
        due.same("after it", Calls.shown(x), before);
        due.is("the transaction is open", x.abort(), 1);
    }

    public static void main(String[] args) {
        Due.runAll(Promise08TargetTest.class);
    }
}
