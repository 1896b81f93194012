/** Promise 5, commit: what it answers, what it refuses, and when the transaction is closed. */
public final class Promise05CommitTest {
    private static final String[] LETTERS = {"a", "b", "c", "d", "e", "f"};

    private static long n(String text) {
        return Name.of(text);
    }

    private static void isClosed(Due due, RefStack x) {
        due.is("update then", x.update(n("q"), -1, 1), false);
        due.is("link then", x.link(n("q"), n("r")), false);
        due.is("commit then", x.commit(), RefStack.NONE);
        due.is("abort then", x.abort(), RefStack.NONE);
        due.is("begin then", x.begin(), true);
        due.is("without changes", x.abort(), 0);
    }

    static void answersTheTime(Due due) {
        RefStack x = new RefStack();
        for (int time = 1; time <= 20; time++) {
            due.is("commit", Calls.change(x, "a=" + time), time);
            due.is("get", x.get(1), time);
        }
    }

    static void answersTimesOfManyLinks(Due due) {
        RefStack x = new RefStack();
        for (int time = 1; time <= 170; time++) {
            due.is("commit", Calls.change(x, time % 2 == 0 ? "a>b" : "a>c"), time);
        }
        due.is("target", x.target(1), n("b"));
    }

    static void theTransactionIsClosedThen(Due due) {
        RefStack x = new RefStack();
        due.is("commit", Calls.change(x, "a=5"), 1);
        isClosed(due, x);
    }

    static void closedAlsoWhenRefused(Due due) {
        RefStack x = new RefStack();
        due.is("reason 1", Calls.change(x, "a?1=5"), -101);
        isClosed(due, x);
        due.is("reason 2", Calls.change(x, "a=5", "a/b=5"), -102);
        isClosed(due, x);
    }

    static void closedAlsoWhenFull(Due due) {
        RefStack x = Edge.sixteenNames();
        due.is("commit", Calls.change(x, "z=5"), RefStack.FULL);
        isClosed(due, x);
    }

    static void changeIIsRefusedWithReason1(Due due) {
        for (int i = 0; i < 6; i++) {
            RefStack x = new RefStack();
            x.begin();
            for (int j = 0; j < 6; j++) {
                x.update(n(LETTERS[j]), j == i ? 7 : 0, 5);
            }
            due.is("change " + i, x.commit(), -100 * (i + 1) - 1);
            due.is("tables", x.tables(), 0);
        }
    }

    static void changeIIsRefusedWithReason2(Due due) {
        for (int i = 0; i < 6; i++) {
            RefStack x = Calls.having("x/y=1");
            x.begin();
            for (int j = 0; j < 6; j++) {
                x.update(j == i ? n("x") : n(LETTERS[j]), 0, 5);
            }
            due.is("change " + i, x.commit(), -100 * (i + 1) - 2);
            due.is("tables", x.tables(), 1);
        }
    }

    static void theFirstOfSeveralIsAnswered(Due due) {
        RefStack x = Calls.having("c/d=1");
        due.is("reason 1", Calls.change(x, "e=1", "a?1=5", "b?2=5"), -201);
        due.is("reason 1 in the order of the changes", Calls.change(x, "b?2=5", "a?1=5"), -101);
        due.is("reason 2", Calls.change(x, "e=1", "c=1", "c/d/e=1"), -202);
        due.is("reason 2 in the order of the changes", Calls.change(x, "c/d/e=1", "c=1"), -102);
    }

    static void reason1IsLookedForInAllChangesFirst(Due due) {
        RefStack x = new RefStack();
        due.is("a later change", Calls.change(x, "a=1", "a/b=1", "c?3=1"), -301);
        due.is("the same change", Calls.change(x, "a=1", "a/b?1=1"), -201);
    }

    static void reason1WhenItIsNotAsExpected(Due due) {
        RefStack x = Calls.having("a=5", "l>a", "d=0");
        due.is("another number", Calls.change(x, "a?6=1"), -101);
        due.is("absent expected, a number", Calls.change(x, "a?0=1"), -101);
        due.is("absent expected, a link", Calls.change(x, "l?0=1"), -101);
        due.is("a number expected, a link to it", Calls.change(x, "l?5=1"), -101);
        due.is("a number expected, absent", Calls.change(x, "d?5=1"), -101);
        due.is("also when nothing would change", Calls.change(x, "a?4=5"), -101);
        due.is("also when it becomes absent", Calls.change(x, "a?4=0"), -101);
        due.is("as expected", Calls.change(x, "a?5=1", "l?-1=1", "d?0=1", "e?0=1"), 2);
    }

    static void reason2WhenAnotherIsUnderIt(Due due) {
        RefStack x = Calls.having("a/b=1", "c/d/e/f/g/h=1");
        due.is("directly", Calls.change(x, "a=1"), -102);
        due.is("as a link", Calls.change(x, "a>z"), -102);
        due.is("far", Calls.change(x, "c=1"), -102);
        due.is("less far", Calls.change(x, "c/d/e/f/g=1"), -102);
    }

    static void reason2WhenItIsUnderAnother(Due due) {
        RefStack x = Calls.having("a=1", "b>z");
        due.is("directly", Calls.change(x, "a/b=1"), -102);
        due.is("as a link", Calls.change(x, "a/b>z"), -102);
        due.is("under a link", Calls.change(x, "b/c=1"), -102);
        due.is("far", Calls.change(x, "a/b/c/d/e/f=1"), -102);
        due.is("twelve symbols", Calls.change(x, "a/cdefghijkl=1"), -102);
    }

    static void reason2AmongTheChanges(Due due) {
        RefStack x = new RefStack();
        due.is("the upper one first", Calls.change(x, "c=1", "a=1", "a/b=1"), -202);
        due.is("the lower one first", Calls.change(x, "c=1", "d=1", "a/b=1", "a=1"), -302);
        due.is("two links", Calls.change(x, "a>c", "a/b>c"), -102);
        due.is("nothing is done", x.tables(), 0);
    }

    static void notUnderWithoutAStroke(Due due) {
        RefStack x = Calls.having("a=1");
        due.is("goes on with a letter", Calls.change(x, "ab=1"), 2);
        due.is("goes on with a dot", Calls.change(x, "a.b=1"), 3);
        due.is("goes on with another symbol", Calls.change(x, "a!=1", "a#=1"), 4);
        due.is("a stroke further behind", Calls.change(x, "ab.c/d=1"), 5);
        due.is("beside each other", Calls.change(x, "b/a=1", "b/ab=1", "b/b=1"), 6);
    }

    static void longestNamesAreUnderOthers(Due due) {
        RefStack x = Calls.having("abcdefghij=1");
        due.is("twelve symbols under ten", Calls.change(x, "abcdefghij/l=1"), -102);
        due.is("twelve symbols that go on", Calls.change(x, "abcdefghijkl=1"), 2);
        due.is("other twelve symbols", Calls.change(x, "abcdefghijkm=1"), 3);
        x = Calls.having("abcdefghij/l=1");
        due.is("ten symbols above twelve", Calls.change(x, "abcdefghij=1"), -102);
    }

    static void notWhenItWouldBeAbsent(Due due) {
        RefStack x = Calls.having("a/b=1", "c=1");
        due.is("an absent one above", Calls.change(x, "a=0"), 2);
        due.is("an absent one under", Calls.change(x, "c/d=0"), 3);
    }

    static void notWhenTheOtherWouldBeAbsent(Due due) {
        RefStack x = Calls.having("a/b=1", "c=1");
        due.is("the other one goes first", Calls.change(x, "a/b=0", "a=1"), 2);
        due.is("the other one goes last", Calls.change(x, "c/d=1", "c=0"), 3);
        due.is("and back", Calls.change(x, "a/b=1", "a=0", "c=1", "c/d=0"), 4);
        due.is("gone before", Calls.change(x, "a/b=0"), 5);
        due.is("comes then", Calls.change(x, "a>c"), 6);
        due.is("a link goes", Calls.change(x, "a=0", "a/b/c=1"), 7);
    }

    static void onlyOneOfTwoOthersGoes(Due due) {
        RefStack x = Calls.having("a/b=1", "a/c=1");
        due.is("one stays", Calls.change(x, "a/b=0", "a=1"), -202);
        due.is("both go", Calls.change(x, "a/b=0", "a=1", "a/c=0"), 2);
    }

    static void whatALinkLeadsToIsNoReference(Due due) {
        RefStack x = Calls.having("a>b/c");
        due.is("above it", Calls.change(x, "b=1"), 2);
        due.is("under it", Calls.change(x, "d>e"), 3);
        due.is("under what d leads to", Calls.change(x, "e/f=1"), 4);
    }

    /** Damage alone can bring two references about of which one is under the other. */
    static void othersThatClashAreNotLookedAt(Due due) {
        RefStack x = Craft.with(TableBytes.head(1, 1).varint(2)
                .number(0, "a", 0, 5).number(1, "/b", 0, 6).varint(0).checked());
        due.is("another name", Calls.change(x, "c=1"), 2);
        due.is("the upper one", Calls.change(x, "c=2", "a=7"), -202);
        due.is("the lower one", Calls.change(x, "a/b=7"), -102);
        due.is("the lower one goes", Calls.change(x, "a/b=0"), 3);
    }

    static void aRefusedOneChangesNothing(Due due) {
        RefStack x = Calls.twoTables();
        String before = Calls.shown(x);
        due.is("reason 1", Calls.change(x, "a=1", "b?5=0", "c>a", "d=1", "e=1", "f?1=2"), -601);
        due.is("reason 2", Calls.change(x, "a=1", "b?5=0", "c>a", "d=1", "e=1", "e/f=2"), -502);
        due.same("after both", Calls.shown(x), before);
        due.is("get(b)", x.get(n("b")), 5);
        due.is("scan", x.scan(0, 3), 0);
        due.is("log", x.log(n("b"), 1, 0), RefStack.NONE);
        due.is("the next time", Calls.change(x, "a=1"), 3);
    }

    static void noneWhenNoneIsOpen(Due due) {
        RefStack x = Calls.twoTables();
        String before = Calls.shown(x);
        due.is("after a commit", x.commit(), RefStack.NONE);
        Calls.open(x, "b=6");
        x.abort();
        due.is("after an abort", x.commit(), RefStack.NONE);
        due.same("nothing is changed", Calls.shown(x), before);
        due.is("get", x.get(n("b")), 5);
    }

    static void noneAlsoWhenATableIsNotWellFormed(Due due) {
        RefStack x = Calls.twoTables();
        x.damage(1, 0, 0);
        due.is("commit", x.commit(), RefStack.NONE);
        due.is("begin", x.begin(), true);
        due.is("commit of an open one", x.commit(), RefStack.DAMAGED);
        x.abort();
        due.is("commit of none", x.commit(), RefStack.NONE);
    }

    static void damagedAndTheTransactionStaysOpen(Due due) {
        for (int table = 0; table < 2; table++) {
            RefStack x = Calls.twoTables();
            Calls.open(x, "b?5=6", "c>b");
            x.damage(table, 0, 83);
            String before = Calls.shown(x);
            due.is("commit", x.commit(), RefStack.DAMAGED);
            due.is("commit again", x.commit(), RefStack.DAMAGED);
            due.same("nothing is changed", Calls.shown(x), before);
            due.is("begin", x.begin(), false);
            due.is("one more change", x.update(n("d"), 0, 7), true);
            x.damage(table, 0, 82);
            due.is("commit, mended", x.commit(), 3);
            due.is("get(b)", x.get(n("b")), 6);
            due.is("target(c)", x.target(n("c")), n("b"));
            due.is("get(d)", x.get(n("d")), 7);
        }
    }

    static void damagedBeforeAllElse(Due due) {
        RefStack x = Calls.having("a=1");
        x.begin();
        x.damage(0, 0, 0);
        due.is("without changes", x.commit(), RefStack.DAMAGED);
        due.is("open still", x.abort(), 0);
        Calls.open(x, "a?7=2");
        due.is("reason 1", x.commit(), RefStack.DAMAGED);
        due.is("open still", x.abort(), 1);
        Calls.open(x, "b=2", "b/c=2");
        due.is("reason 2", x.commit(), RefStack.DAMAGED);
        due.is("open still", x.abort(), 2);
        x = Edge.sixteenNames();
        Calls.open(x, "z=1");
        x.damage(0, 0, 0);
        due.is("full", x.commit(), RefStack.DAMAGED);
        due.is("open still", x.abort(), 1);
    }

    static void withoutChangesZeroAndNothingIsWritten(Due due) {
        RefStack x = new RefStack();
        due.is("without tables", Calls.change(x), 0);
        due.is("tables", x.tables(), 0);
        isClosed(due, x);
        x = Calls.twoTables();
        String before = Calls.shown(x);
        due.is("with tables", Calls.change(x), 0);
        due.same("after it", Calls.shown(x), before);
        isClosed(due, x);
        due.is("the next time", Calls.change(x, "c=1"), 3);
    }

    static void withoutChangesZeroAlsoWhereMoreWouldBeFull(Due due) {
        due.is("16 names", Calls.change(Edge.sixteenNames()), 0);
        due.is("24 entries", Calls.change(Edge.twentyFourEntries()), 0);
        due.is("time 2000", Calls.change(Craft.with(TableBytes.head(2000, 2000)
                .varint(1).number(0, "a", 0, 5).varint(0).checked())), 0);
        due.is("30 records", Calls.change(Craft.with(Edge.numbers(30))), 0);
    }

    public static void main(String[] args) {
        Due.runAll(Promise05CommitTest.class);
    }
}
