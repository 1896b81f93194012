/** Promise 4: link. */
public final class Promise04LinkTest {
    private static RefStack opened() {
        RefStack x = new RefStack();
        x.begin();
        return x;
    }

    static void theReferenceGetsALink(Due due) {
        RefStack x = opened();
        due.is("link", x.link(1, 2), true);
        due.is("commit", x.commit(), 1);
        due.is("target", x.target(1), 2);
        due.is("get", x.get(1), RefStack.LINKED);
        due.is("the other name has nothing", x.get(2), 0);
    }

    static void whateverItHas(Due due) {
        RefStack x = Calls.having("a=5", "b>a", "c=0");
        x.begin();
        due.is("over a number", x.link(1, 9), true);
        due.is("over a link", x.link(2, 9), true);
        due.is("over an absent one with a record", x.link(3, 9), true);
        due.is("over an absent one without", x.link(4, 9), true);
        due.is("commit", x.commit(), 2);
        for (int name = 1; name <= 4; name++) {
            due.is("target", x.target(name), 9);
        }
    }

    static void toAnyOtherGoodName(Due due) {
        RefStack x = opened();
        due.is("to one under it", x.link(1, Name.of("a/b")), true);
        due.is("to one above it", x.link(Name.of("b/c"), 2), true);
        due.is("to one that links back", x.link(4, 5) && x.link(5, 4), true);
        due.is("commit", x.commit(), 1);
        due.is("target(a)", x.target(1), Name.of("a/b"));
        due.is("target(b/c)", x.target(Name.of("b/c")), 2);
        due.is("target(d)", x.target(4), 5);
        due.is("target(e)", x.target(5), 4);
    }

    static void falseWhenNoTransactionIsOpen(Due due) {
        RefStack x = new RefStack();
        due.is("new", x.link(1, 2), false);
        Calls.change(x, "a=5");
        due.is("after commit", x.link(1, 2), false);
        Calls.open(x, "a=6");
        x.abort();
        due.is("after abort", x.link(1, 2), false);
        due.is("get", x.get(1), 5);
        x.begin();
        due.is("nothing was kept for later", x.abort(), 0);
    }

    static void sixChangesAndNoMore(Due due) {
        RefStack x = opened();
        for (int name = 1; name <= 6; name++) {
            due.is("change " + name, x.link(name, 9), true);
        }
        due.is("a seventh", x.link(7, 9), false);
        due.is("commit", x.commit(), 1);
        due.is("the sixth", x.target(6), 9);
        due.is("the seventh", x.target(7), 0);
        due.is("records", x.records(0), 6);
    }

    static void updatesAreAmongTheSix(Due due) {
        RefStack x = opened();
        for (int name = 1; name <= 5; name++) {
            x.update(name, 0, 1);
        }
        due.is("the sixth", x.link(6, 9), true);
        due.is("the seventh", x.link(7, 9), false);
        due.is("abort", x.abort(), 6);
    }

    static void oneChangeOfAName(Due due) {
        RefStack x = opened();
        for (int name = 1; name <= 5; name++) {
            if (name % 2 == 0) {
                x.link(name, 9);
            } else {
                x.update(name, 0, 1);
            }
            for (int taken = 1; taken <= name; taken++) {
                due.is("taken", x.link(taken, 8), false);
            }
        }
        due.is("the name that others link to is free", x.link(9, 1), true);
        due.is("abort", x.abort(), 6);
    }

    static void namesThatAreGood(Due due) {
        for (String text : Name.GOOD) {
            RefStack x = opened();
            due.is("link from " + text, x.link(Name.of(text), Name.of("yy")), true);
            due.is("link to " + text, x.link(Name.of("zz"), Name.of(text)), true);
            due.is("commit of " + text, x.commit(), 1);
            due.is("target of " + text, x.target(Name.of(text)), Name.of("yy"));
            due.is("target " + text, x.target(Name.of("zz")), Name.of(text));
            due.is("sound with " + text, x.sound(0), true);
        }
    }

    static void falseWhenTheNameIsNotGood(Due due) {
        RefStack x = opened();
        for (long name : Name.bad()) {
            due.is("link from " + Long.toHexString(name), x.link(name, 3), false);
        }
        due.is("abort", x.abort(), 0);
    }

    static void falseWhenTheOtherNameIsNotGood(Due due) {
        RefStack x = opened();
        for (long name : Name.bad()) {
            due.is("link to " + Long.toHexString(name), x.link(3, name), false);
            due.is("link from and to " + Long.toHexString(name), x.link(name, name), false);
        }
        due.is("neither is good", x.link(0, -1), false);
        due.is("abort", x.abort(), 0);
    }

    static void falseWhenBothAreTheSame(Due due) {
        RefStack x = opened();
        for (String text : Name.GOOD) {
            due.is("link(" + text + ")", x.link(Name.of(text), Name.of(text)), false);
        }
        due.is("the last symbol differs", x.link(Name.of("abcdefghijkl"), Name.of("abcdefghijkm")), true);
        due.is("one symbol more", x.link(1, Name.of("aa")), true);
        due.is("abort", x.abort(), 2);
    }

    static void aRefusedLinkChangesNothing(Due due) {
        RefStack x = Calls.having("c=3");
        String before = Calls.shown(x);
        Calls.open(x, "a>c");
        due.is("taken", x.link(1, 2), false);
        due.is("the same", x.link(2, 2), false);
        due.is("name", x.link(0, 2), false);
        due.is("other name", x.link(2, 0), false);
        due.same("no table is changed", Calls.shown(x), before);
        due.is("a name that was refused is free", x.link(2, 1), true);
        due.is("commit", x.commit(), 2);
        due.is("target(a)", x.target(1), 3);
        due.is("target(b)", x.target(2), 1);
    }

    static void nothingIsSeenBeforeTheCommit(Due due) {
        RefStack x = Calls.having("a=5");
        String before = Calls.shown(x);
        Calls.open(x, "a>b", "b>a");
        due.is("get(a)", x.get(1), 5);
        due.is("target(a)", x.target(1), 0);
        due.is("scan", x.scan(0, 1), 0);
        due.same("no table is changed", Calls.shown(x), before);
    }

    static void doesNotNameDamaged(Due due) {
        RefStack x = Calls.having("a=5");
        x.damage(0, 0, 0);
        x.begin();
        due.is("link", x.link(1, 2), true);
        due.is("link again", x.link(1, 2), false);
        x.damage(0, 0, 82);
        due.is("commit, mended", x.commit(), 2);
        due.is("target", x.target(1), 2);
    }

    public static void main(String[] args) {
        Due.runAll(Promise04LinkTest.class);
    }
}
