/** Promise 3: update. */
public final class Promise03UpdateTest {
    private static final int[] NUMBERS = {1, 2, 127, 128, 16383, 16384, 65534, 65535};

    private static RefStack opened() {
        RefStack x = new RefStack();
        x.begin();
        return x;
    }

    static void theReferenceGetsThisNumber(Due due) {
        for (int number : NUMBERS) {
            RefStack x = opened();
            due.is("update", x.update(1, RefStack.NONE, number), true);
            due.is("commit", x.commit(), 1);
            due.is("get", x.get(1), number);
        }
    }

    static void itBecomesAbsent(Due due) {
        RefStack x = Calls.having("a=5", "b>a");
        x.begin();
        due.is("update of a number", x.update(1, RefStack.NONE, 0), true);
        due.is("update of a link", x.update(2, RefStack.NONE, 0), true);
        due.is("update of an absent one", x.update(3, RefStack.NONE, 0), true);
        due.is("commit", x.commit(), 2);
        for (int name = 1; name <= 3; name++) {
            due.is("get", x.get(name), 0);
            due.is("target", x.target(name), 0);
        }
        due.is("scan", x.scan(0, 0), 0);
    }

    static void expectedIsTheNumberThatItMustHave(Due due) {
        for (int number : NUMBERS) {
            RefStack x = Calls.having("a=" + number);
            due.is("one less", Calls.change(x, "a?" + (number - 1) + "=7"), -101);
            if (number < 65535) {
                due.is("one more", Calls.change(x, "a?" + (number + 1) + "=7"), -101);
            }
            due.is("just this", Calls.change(x, "a?" + number + "=7"), 2);
            due.is("get", x.get(1), 7);
        }
        due.is("a number, but it is absent", Calls.change(new RefStack(), "a?1=7"), -101);
        due.is("65535, but it is absent", Calls.change(new RefStack(), "a?65535=7"), -101);
    }

    static void expectedZeroIsAbsent(Due due) {
        RefStack x = new RefStack();
        due.is("without tables", Calls.change(x, "a?0=5"), 1);
        due.is("a number", Calls.change(x, "a?0=6"), -101);
        due.is("without a record", Calls.change(x, "b?0=5"), 2);
        due.is("it becomes absent", Calls.change(x, "a?5=0"), 3);
        due.is("absent again", Calls.change(x, "a?0=6"), 4);
        due.is("get", x.get(1), 6);
    }

    static void expectedNoneIsAnything(Due due) {
        RefStack x = Calls.having("a=5", "b>a");
        x.begin();
        due.is("a number", x.update(1, -1, 6), true);
        due.is("a link", x.update(2, -1, 7), true);
        due.is("an absent one", x.update(3, -1, 8), true);
        due.is("commit", x.commit(), 2);
        due.is("get(a)", x.get(1), 6);
        due.is("get(b)", x.get(2), 7);
        due.is("get(c)", x.get(3), 8);
    }

    static void aLinkIsNotExpectedByAnyNumber(Due due) {
        RefStack x = Calls.having("a=5", "b>a", "c>d");
        for (String expected : new String[] {"0", "1", "5", "65531", "65532", "65535"}) {
            due.is("link to 5, " + expected, Calls.change(x, "b?" + expected + "=9"), -101);
            due.is("link to an absent one, " + expected, Calls.change(x, "c?" + expected + "=9"), -101);
        }
        due.is("anything", Calls.change(x, "b?-1=9", "c?-1=9"), 2);
    }

    static void falseWhenNoTransactionIsOpen(Due due) {
        RefStack x = new RefStack();
        due.is("new", x.update(1, -1, 1), false);
        Calls.change(x, "a=5");
        due.is("after commit", x.update(1, -1, 1), false);
        Calls.open(x, "a=6");
        x.abort();
        due.is("after abort", x.update(1, -1, 1), false);
        Calls.change(x, "a?9=6");
        due.is("after a refusal", x.update(1, -1, 1), false);
        due.is("get", x.get(1), 5);
        x.begin();
        due.is("nothing was kept for later", x.abort(), 0);
    }

    static void sixChangesAndNoMore(Due due) {
        RefStack x = opened();
        for (int name = 1; name <= 6; name++) {
            due.is("change " + name, x.update(name, 0, name), true);
        }
        due.is("a seventh", x.update(7, 0, 7), false);
        due.is("and again", x.update(8, 0, 8), false);
        due.is("commit", x.commit(), 1);
        due.is("the sixth", x.get(6), 6);
        due.is("the seventh", x.get(7), 0);
        due.is("records", x.records(0), 6);
    }

    static void linksAreAmongTheSix(Due due) {
        RefStack x = opened();
        for (int name = 1; name <= 5; name++) {
            x.link(name, 9);
        }
        due.is("the sixth", x.update(6, 0, 6), true);
        due.is("the seventh", x.update(7, 0, 7), false);
        due.is("abort", x.abort(), 6);
    }

    static void oneChangeOfAName(Due due) {
        RefStack x = opened();
        for (int name = 1; name <= 5; name++) {
            if (name % 2 == 0) {
                x.link(name, 9);
            } else {
                x.update(name, 0, 1);
            }
            for (int taken = 1; taken <= name; taken++) {
                due.is("taken", x.update(taken, -1, 2), false);
            }
        }
        due.is("a beginning of one that is taken is free", x.update(Name.of("ab"), -1, 1), true);
        due.is("abort", x.abort(), 6);
    }

    static void aNameThatIsGood(Due due) {
        for (String text : Name.GOOD) {
            RefStack x = opened();
            due.is("update(" + text + ")", x.update(Name.of(text), 0, 5), true);
            due.is("commit of " + text, x.commit(), 1);
            due.is("get(" + text + ")", x.get(Name.of(text)), 5);
            due.is("scan to " + text, x.scan(0, 0), Name.of(text));
            due.is("sound with " + text, x.sound(0), true);
        }
    }

    static void falseWhenTheNameIsNotGood(Due due) {
        RefStack x = opened();
        for (long name : Name.bad()) {
            due.is("update(" + Long.toHexString(name) + ")", x.update(name, -1, 5), false);
        }
        due.is("abort", x.abort(), 0);
    }

    static void expectedIsMinusOneTo65535(Due due) {
        int[] wrong = {-2, -3, -65536, Integer.MIN_VALUE, 65536, 65537, 131071, Integer.MAX_VALUE};
        RefStack x = opened();
        for (int expected : wrong) {
            due.is("expected " + expected, x.update(1, expected, 1), false);
        }
        int[] right = {-1, 0, 1, 65534, 65535};
        for (int i = 0; i < right.length; i++) {
            due.is("expected " + right[i], x.update(i + 1, right[i], 1), true);
        }
        due.is("abort", x.abort(), right.length);
    }

    static void numberIsZeroTo65535(Due due) {
        int[] wrong = {-1, -2, -65536, Integer.MIN_VALUE, 65536, 65537, 131072, Integer.MAX_VALUE};
        RefStack x = opened();
        for (int number : wrong) {
            due.is("number " + number, x.update(1, -1, number), false);
        }
        int[] right = {0, 1, 65534, 65535};
        for (int i = 0; i < right.length; i++) {
            due.is("number " + right[i], x.update(i + 1, -1, right[i]), true);
        }
        due.is("abort", x.abort(), right.length);
    }

    static void aRefusedUpdateChangesNothing(Due due) {
        RefStack x = Calls.having("c=3");
        String before = Calls.shown(x);
        Calls.open(x, "a=5");
        due.is("taken", x.update(1, -1, 6), false);
        due.is("number", x.update(2, -1, 65536), false);
        due.is("expected", x.update(2, -2, 6), false);
        due.is("name", x.update(0, -1, 6), false);
        due.same("no table is changed", Calls.shown(x), before);
        due.is("a name that was refused is free", x.update(2, 0, 7), true);
        due.is("commit", x.commit(), 2);
        due.is("get(a)", x.get(1), 5);
        due.is("get(b)", x.get(2), 7);
        due.is("log(a, 1)", x.log(1, 1, 0), RefStack.NONE);
    }

    static void nothingIsSeenBeforeTheCommit(Due due) {
        RefStack x = Calls.having("a=5");
        String before = Calls.shown(x);
        Calls.open(x, "a=6", "b=7");
        due.is("get(a)", x.get(1), 5);
        due.is("get(b)", x.get(2), 0);
        due.is("scan", x.scan(0, 1), 0);
        due.is("log", x.log(1, 1, 0), RefStack.NONE);
        due.same("no table is changed", Calls.shown(x), before);
    }

    static void doesNotNameDamaged(Due due) {
        RefStack x = Calls.having("a=5");
        x.damage(0, 0, 0);
        x.begin();
        due.is("update", x.update(1, 5, 6), true);
        due.is("update again", x.update(1, 5, 6), false);
        x.damage(0, 0, 82);
        due.is("commit, mended", x.commit(), 2);
        due.is("get", x.get(1), 6);
    }

    public static void main(String[] args) {
        Due.runAll(Promise03UpdateTest.class);
    }
}
