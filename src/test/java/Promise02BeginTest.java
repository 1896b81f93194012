/** Promise 2: begin. */
public final class Promise02BeginTest {
    static void opensATransaction(Due due) {
        RefStack x = new RefStack();
        due.is("begin", x.begin(), true);
        due.is("update", x.update(1, 0, 5), true);
        due.is("commit", x.commit(), 1);
    }

    static void itIsWithoutChanges(Due due) {
        RefStack x = new RefStack();
        due.is("begin", x.begin(), true);
        due.is("abort", x.abort(), 0);
        Calls.open(x, "a=1", "b=1", "c=1", "d=1", "e=1", "f=1");
        due.is("abort of six", x.abort(), 6);
        due.is("begin after six changes", x.begin(), true);
        due.is("one of the same names", x.update(1, 0, 1), true);
        due.is("abort of one", x.abort(), 1);
    }

    static void falseWhenOneIsOpen(Due due) {
        RefStack x = new RefStack();
        x.begin();
        due.is("without changes", x.begin(), false);
        x.update(1, 0, 5);
        due.is("with a change", x.begin(), false);
        due.is("and again", x.begin(), false);
    }

    static void aRefusedBeginChangesNothing(Due due) {
        RefStack x = new RefStack();
        Calls.open(x, "a=5", "b>a");
        due.is("begin", x.begin(), false);
        due.is("a name that is taken", x.update(1, 0, 6), false);
        due.is("a name that is not", x.update(3, 0, 6), true);
        due.is("commit", x.commit(), 1);
        due.is("get(a)", x.get(1), 5);
        due.is("target(b)", x.target(2), 1);
        due.is("get(c)", x.get(3), 6);
        Calls.open(x, "a=6", "b=7");
        due.is("begin", x.begin(), false);
        due.is("abort", x.abort(), 2);
    }

    private static void opensEmpty(Due due, RefStack x) {
        due.is("begin", x.begin(), true);
        due.is("abort", x.abort(), 0);
    }

    static void afterAnAbort(Due due) {
        RefStack x = new RefStack();
        Calls.open(x, "a=1");
        x.abort();
        opensEmpty(due, x);
    }

    static void afterACommit(Due due) {
        RefStack x = new RefStack();
        due.is("commit", Calls.change(x, "a=1"), 1);
        opensEmpty(due, x);
    }

    static void afterACommitWithoutChanges(Due due) {
        RefStack x = new RefStack();
        due.is("commit", Calls.change(x), 0);
        opensEmpty(due, x);
    }

    static void afterARefusedCommit(Due due) {
        RefStack x = new RefStack();
        due.is("reason 1", Calls.change(x, "a?1=1"), -101);
        opensEmpty(due, x);
        due.is("reason 2", Calls.change(x, "a=1", "a/b=1"), -102);
        opensEmpty(due, x);
    }

    static void afterAFullCommit(Due due) {
        RefStack x = Edge.sixteenNames();
        due.is("commit", Calls.change(x, "z=1"), RefStack.FULL);
        opensEmpty(due, x);
    }

    static void notAfterADamagedCommit(Due due) {
        RefStack x = Calls.having("a=1");
        Calls.open(x, "b=1");
        x.damage(0, 0, 0);
        due.is("commit", x.commit(), RefStack.DAMAGED);
        due.is("begin", x.begin(), false);
        due.is("abort", x.abort(), 1);
    }

    static void doesNotNameDamaged(Due due) {
        RefStack x = Calls.having("a=1");
        x.damage(0, 0, 0);
        due.is("begin", x.begin(), true);
        due.is("begin again", x.begin(), false);
        due.is("abort", x.abort(), 0);
    }

    static void changesNoTable(Due due) {
        RefStack x = Calls.twoTables();
        String before = Calls.shown(x);
        due.is("begin", x.begin(), true);
        due.same("after begin", Calls.shown(x), before);
    }

    public static void main(String[] args) {
        Due.runAll(Promise02BeginTest.class);
    }
}
