/** Promise 1: a new object has no tables and no transaction. */
public final class Promise01NewObjectTest {
    static void noTables(Due due) {
        RefStack x = new RefStack();
        due.is("tables", x.tables(), 0);
        due.is("size", x.size(0), RefStack.NONE);
        due.is("byteAt", x.byteAt(0, 0), RefStack.NONE);
        due.is("records", x.records(0), RefStack.NONE);
        due.is("sound", x.sound(0), false);
        due.is("damage", x.damage(0, 0, 0), false);
        due.is("compact", x.compact(), 0);
        due.is("expire", x.expire(1), 0);
        due.is("tables still", x.tables(), 0);
    }

    static void noTransaction(Due due) {
        RefStack x = new RefStack();
        due.is("update", x.update(1, RefStack.NONE, 1), false);
        due.is("link", x.link(1, 2), false);
        due.is("commit", x.commit(), RefStack.NONE);
        due.is("abort", x.abort(), RefStack.NONE);
        due.is("begin", x.begin(), true);
    }

    static void everyReferenceIsAbsent(Due due) {
        RefStack x = new RefStack();
        due.is("get", x.get(1), 0);
        due.is("target", x.target(1), 0);
        due.is("resolve", x.resolve(1), 0);
        due.is("scan", x.scan(0, 0), 0);
        due.is("log", x.log(1, 0, 0), RefStack.NONE);
    }

    static void theFirstTimeIsOne(Due due) {
        due.is("commit", Calls.change(new RefStack(), "a=1"), 1);
    }

    static void nothingOfAnotherObject(Due due) {
        RefStack other = Calls.having("a=5");
        Calls.open(other, "b=6");
        RefStack x = new RefStack();
        due.is("tables", x.tables(), 0);
        due.is("get", x.get(1), 0);
        due.is("abort", x.abort(), RefStack.NONE);
        due.is("commit", Calls.change(x, "a?0=7"), 1);
        due.is("get of the other one", other.get(1), 5);
        due.is("abort of the other one", other.abort(), 1);
    }

    public static void main(String[] args) {
        Due.runAll(Promise01NewObjectTest.class);
    }
}
