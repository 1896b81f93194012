/** Promises 1 to 4 and 6: a new object, begin, update, link, abort, and what good names are. */
public final class TransactionTest {
    private static final Due DUE = new Due();

    private static void newObject() {
        DUE.about("promise 1");
        RefStack x = new RefStack();
        DUE.is("tables", x.tables(), 0);
        DUE.is("abort", x.abort(), RefStack.NONE);
        DUE.is("commit", x.commit(), RefStack.NONE);
        DUE.is("get", x.get(1), 0);
        DUE.is("scan", x.scan(0, 0), 0);
        DUE.is("size", x.size(0), RefStack.NONE);
    }

    private static void begin() {
        DUE.about("promise 2");
        RefStack x = new RefStack();
        DUE.is("begin", x.begin(), true);
        DUE.is("update", x.update(1, 0, 1), true);
        DUE.is("begin while open", x.begin(), false);
        DUE.is("abort: the change is still there", x.abort(), 1);
        DUE.is("begin after abort", x.begin(), true);
        DUE.is("abort: without changes", x.abort(), 0);
        DUE.is("begin", x.begin(), true);
        DUE.is("commit", x.commit(), 0);
        DUE.is("begin after commit", x.begin(), true);
        DUE.is("update", x.update(1, 7, 1), true);
        DUE.is("commit refused", x.commit(), -101);
        DUE.is("begin after a refusal", x.begin(), true);
        DUE.is("abort: without changes", x.abort(), 0);
    }

    private static void update() {
        DUE.about("promise 3");
        RefStack x = new RefStack();
        DUE.is("none open", x.update(1, -1, 1), false);
        x.begin();
        DUE.is("expected -2", x.update(1, -2, 1), false);
        DUE.is("expected 65536", x.update(1, 65536, 1), false);
        DUE.is("expected least", x.update(1, Integer.MIN_VALUE, 1), false);
        DUE.is("expected greatest", x.update(1, Integer.MAX_VALUE, 1), false);
        DUE.is("number -1", x.update(1, -1, -1), false);
        DUE.is("number 65536", x.update(1, -1, 65536), false);
        DUE.is("number least", x.update(1, -1, Integer.MIN_VALUE), false);
        DUE.is("number greatest", x.update(1, -1, Integer.MAX_VALUE), false);
        DUE.is("name 0", x.update(0, -1, 1), false);
        DUE.is("abort: none of these was taken", x.abort(), 0);
        x.begin();
        DUE.is("1st", x.update(1, -1, 0), true);
        DUE.is("2nd", x.update(2, 0, 65535), true);
        DUE.is("2nd again", x.update(2, 0, 65535), false);
        DUE.is("2nd as a link", x.link(2, 3), false);
        DUE.is("3rd", x.update(3, 65535, 1), true);
        DUE.is("4th", x.link(4, 1), true);
        DUE.is("4th again", x.update(4, -1, 1), false);
        DUE.is("5th", x.update(5, -1, 1), true);
        DUE.is("6th", x.update(6, -1, 1), true);
        DUE.is("7th", x.update(7, -1, 1), false);
        DUE.is("7th as a link", x.link(7, 1), false);
        DUE.is("abort", x.abort(), 6);
        DUE.is("after abort", x.update(1, -1, 1), false);
    }

    private static void link() {
        DUE.about("promise 4");
        RefStack x = new RefStack();
        DUE.is("none open", x.link(1, 2), false);
        x.begin();
        DUE.is("to itself", x.link(1, 1), false);
        DUE.is("from no name", x.link(0, 1), false);
        DUE.is("to no name", x.link(1, 0), false);
        DUE.is("from and to no name", x.link(0, -1), false);
        DUE.is("from a bad name", x.link(Name.of("a."), 1), false);
        DUE.is("to a bad name", x.link(1, Name.of("a/")), false);
        DUE.is("to a name with a gap", x.link(1, 1L << 10 | 2), false);
        DUE.is("good", x.link(1, 2), true);
        DUE.is("the same name again", x.link(1, 3), false);
        DUE.is("the way back", x.link(2, 1), true);
        DUE.is("to one that links already", x.link(3, 1), true);
        DUE.is("abort", x.abort(), 3);
        x.begin();
        DUE.is("update", x.update(1, -1, 9), true);
        DUE.is("commit", x.commit(), 1);
        x.begin();
        DUE.is("over a number, whatever it has", x.link(1, 2), true);
        DUE.is("commit", x.commit(), 2);
        x.begin();
        DUE.is("over a link, whatever it has", x.link(1, 3), true);
        DUE.is("commit", x.commit(), 3);
        DUE.is("target", x.target(1), 3);
    }

    private static void abort() {
        DUE.about("promise 6");
        RefStack x = new RefStack();
        DUE.is("none open", x.abort(), RefStack.NONE);
        x.begin();
        x.update(1, -1, 5);
        x.link(2, 1);
        DUE.is("abort", x.abort(), 2);
        DUE.is("abort again", x.abort(), RefStack.NONE);
        DUE.is("get: nothing was done", x.get(1), 0);
        DUE.is("tables: nothing was done", x.tables(), 0);
        DUE.is("commit: none open", x.commit(), RefStack.NONE);
    }

    private static void good(String text, boolean want) {
        RefStack x = new RefStack();
        x.begin();
        DUE.is("update(" + text + ")", x.update(Name.of(text), -1, 1), want);
        x.abort();
        x.begin();
        DUE.is("link from " + text, x.link(Name.of(text), Name.of("zz")), want);
        DUE.is("link to " + text, x.link(Name.of("zz"), Name.of(text)), want);
    }

    private static void names() {
        DUE.about("good names");
        String[] good = {
            "a", "z", "@", "#", "abcdefghijkl", "a/b", "a/b/c/d/e/f", "a.b", "a.b.c", "a.b/c.d", "a/!",
            "a!", "a/!a", "@!", "#/@", "a/b.c", "a.!"
        };
        for (String text : good) {
            good(text, true);
        }
        String[] bad = {
            "/", ".", "!", "!a", "/a", "a/", "a//b", "a/b/", ".a", "a.", "a..b", "a/.b", "a./b", "a/b.",
            "a/b..c", "abcdefghijk/", "abcdefghijk.", "a...b", "!/a"
        };
        for (String text : bad) {
            good(text, false);
        }
        RefStack x = new RefStack();
        x.begin();
        long twelve = Name.of("abcdefghijkl");
        for (int bit = 60; bit < 64; bit++) {
            DUE.is("bit " + bit + " behind twelve symbols", x.update(twelve | 1L << bit, -1, 1), false);
            DUE.is("bit " + bit + " behind one symbol", x.update(1 | 1L << bit, -1, 1), false);
        }
        DUE.is("a gap", x.update(1 | 1L << 10, -1, 1), false);
        DUE.is("a 0 in front", x.update(1L << 5, -1, 1), false);
        DUE.is("a gap before the last", x.update(twelve & ~(31L << 50), -1, 1), false);
        DUE.is("-1", x.update(-1, -1, 1), false);
        DUE.is("least", x.update(Long.MIN_VALUE, -1, 1), false);
        DUE.is("greatest", x.update(Long.MAX_VALUE, -1, 1), false);
        DUE.is("all ones in 60 bits", x.update((1L << 60) - 1, -1, 1), true);
        DUE.is("abort", x.abort(), 1);
    }

    public static void main(String[] args) {
        newObject();
        begin();
        update();
        link();
        abort();
        names();
        DUE.end();
    }
}
