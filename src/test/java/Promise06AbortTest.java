/** Promise 6: abort. */
public final class Promise06AbortTest {
    static void howManyChangesItHad(Due due) {
        RefStack x = new RefStack();
        for (int changes = 0; changes <= 6; changes++) {
            x.begin();
            for (int name = 1; name <= changes; name++) {
                due.is("change", name % 2 == 0 ? x.link(name, 9) : x.update(name, -1, 1), true);
            }
            due.is("abort of " + changes, x.abort(), changes);
        }
    }

    static void refusedChangesAreNotAmongThem(Due due) {
        RefStack x = new RefStack();
        Calls.open(x, "a=1", "b=1", "c=1", "d=1", "e=1", "f=1");
        due.is("a seventh", x.update(7, -1, 1), false);
        due.is("a link to itself", x.link(1, 1), false);
        due.is("abort", x.abort(), 6);
    }

    static void noneWhenNoneIsOpen(Due due) {
        RefStack x = new RefStack();
        due.is("new", x.abort(), RefStack.NONE);
        Calls.open(x, "a=1");
        x.abort();
        due.is("after abort", x.abort(), RefStack.NONE);
        Calls.change(x, "a=1");
        due.is("after commit", x.abort(), RefStack.NONE);
        Calls.change(x);
        due.is("after a commit without changes", x.abort(), RefStack.NONE);
        due.is("refused", Calls.change(x, "a?7=1"), -101);
        due.is("after a refusal", x.abort(), RefStack.NONE);
        x = Edge.sixteenNames();
        due.is("full", Calls.change(x, "z=1"), RefStack.FULL);
        due.is("after FULL", x.abort(), RefStack.NONE);
    }

    static void noneChangesNothing(Due due) {
        RefStack x = Calls.twoTables();
        String before = Calls.shown(x);
        due.is("abort", x.abort(), RefStack.NONE);
        due.same("after abort", Calls.shown(x), before);
        due.is("begin", x.begin(), true);
        due.is("without changes", x.abort(), 0);
    }

    static void closesTheTransaction(Due due) {
        RefStack x = new RefStack();
        Calls.open(x, "a=1");
        x.abort();
        due.is("update", x.update(2, -1, 1), false);
        due.is("link", x.link(2, 1), false);
        due.is("commit", x.commit(), RefStack.NONE);
        due.is("begin", x.begin(), true);
    }

    static void nothingIsDone(Due due) {
        RefStack x = Calls.twoTables();
        String before = Calls.shown(x);
        Calls.open(x, "b=6", "c=7", "d>b");
        due.is("abort", x.abort(), 3);
        due.same("after abort", Calls.shown(x), before);
        due.is("get(b)", x.get(Name.of("b")), 5);
        due.is("get(c)", x.get(Name.of("c")), 0);
        due.is("get(d)", x.get(Name.of("d")), 0);
        due.is("the next time", Calls.change(x, "c=1"), 3);
    }

    static void doesNotNameDamaged(Due due) {
        RefStack x = Calls.having("a=5");
        Calls.open(x, "b=6");
        x.damage(0, 0, 0);
        due.is("abort", x.abort(), 1);
        due.is("abort again", x.abort(), RefStack.NONE);
    }

    public static void main(String[] args) {
        Due.runAll(Promise06AbortTest.class);
    }
}
