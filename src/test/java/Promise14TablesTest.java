/** Promise 14: tables. */
public final class Promise14TablesTest {
    static void noneAtFirst(Due due) {
        RefStack x = new RefStack();
        due.is("new", x.tables(), 0);
        Calls.open(x, "a=1");
        due.is("before the commit", x.tables(), 0);
        x.abort();
        due.is("after an abort", x.tables(), 0);
        Calls.change(x);
        due.is("after a commit without changes", x.tables(), 0);
        Calls.change(x, "a?1=1");
        due.is("after a refusal", x.tables(), 0);
        x.compact();
        x.expire(1);
        due.is("after compact and expire", x.tables(), 0);
    }

    static void oneMoreWithACommitThatMergesNone(Due due) {
        RefStack x = Calls.having("azzz>###########");
        due.is("one", x.tables(), 1);
        Calls.change(x, "b>#");
        due.is("two", x.tables(), 2);
        Calls.change(x, "c>#");
        due.is("merged", x.tables(), 1);
    }

    static void sevenAtMost(Due due) {
        SevenTables seven = new SevenTables(due);
        due.is("tables", seven.x.tables(), 7);
        seven.compareAll();
        seven.commitThatMergesAll();
        due.is("tables then", seven.x.tables(), 1);
    }

    static void oneAfterCompactAndExpire(Due due) {
        RefStack x = Calls.twoTables();
        x.compact();
        due.is("after compact", x.tables(), 1);
        x = Calls.twoTables();
        x.expire(1);
        due.is("after expire", x.tables(), 1);
    }

    static void theSameWhenFull(Due due) {
        RefStack x = Edge.thirtyRecordsAnd("cc", 1);
        x.compact();
        x.expire(9);
        Calls.change(x, "a=1");
        due.is("tables", x.tables(), 2);
    }

    static void doesNotNameDamaged(Due due) {
        RefStack x = Calls.twoTables();
        x.damage(0, 0, 0);
        due.is("one damaged", x.tables(), 2);
        x.damage(1, 0, 0);
        due.is("both damaged", x.tables(), 2);
    }

    public static void main(String[] args) {
        Due.runAll(Promise14TablesTest.class);
    }
}
