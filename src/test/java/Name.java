/** Names written as texts: a to z, the stroke, the dot, and ! @ # for the symbols 29, 30, 31. */
final class Name {
    static final String TWELVE = "abcdefghijkl";

    /** Good names at the edges of what is good. */
    static final String[] GOOD = {
        "a", "z", "@", "#", TWELVE, "############", "abcdefghij/l", "abcdefghij.l", "a/b",
        "a/b/c/d/e/f", "a.b", "a.b.c", "a.b.c.d.e.f", "a.b/c.d", "a/b.c", "a!", "a/!", "a/!a", "a.!",
        "@!", "#/@"
    };

    /** Names, in the sense of rows of symbols, that are not good. */
    static final String[] BAD_TEXTS = {
        "/", "//", "/a", "a/", "a//b", "a/b/", "abcdefghijk/", "/bcdefghijkl", ".", "..", ".a", "a.",
        "a..b", "a...b", "abcdefghij..", "a/.b", "a./b", "a/b.", "a/.", "./a", "a/b..c", "abcdefghijk.",
        "zbcdefghijk/", "zbcdefghijk.", "###########/", "###########.", ".bcdefghijkl", "!", "!a", "!/a", "!!", "!bcdefghijkl"
    };

    private static final String SYMBOLS = " abcdefghijklmnopqrstuvwxyz/.!@#";

    private Name() {
    }

    /** Longs that are no good names; many have the symbols of "a" or TWELVE and then more. */
    static long[] bad() {
        long twelve = of(TWELVE);
        long[] others = {
            0, -1, Long.MIN_VALUE, Long.MAX_VALUE, 1L << 5, 1L << 55, 1L << 60, 1L << 63,
            of("a") | 1L << 10, of("a") | 1L << 55, of("a") | 1L << 59, of("a") | 1L << 60,
            of("a") | 1L << 61, of("a") | 1L << 62, of("a") | 1L << 63, of("ab") & ~31L,
            twelve & ~(31L << 50), twelve & ~31L, twelve | 1L << 60, twelve | 1L << 61,
            twelve | 1L << 62, twelve | 1L << 63, twelve | 15L << 60
        };
        long[] all = java.util.Arrays.copyOf(others, others.length + BAD_TEXTS.length);
        for (int i = 0; i < BAD_TEXTS.length; i++) {
            all[others.length + i] = of(BAD_TEXTS[i]);
        }
        return all;
    }

    static int symbol(char letter) {
        int symbol = SYMBOLS.indexOf(letter);
        if (symbol <= 0) {
            throw new IllegalArgumentException("no symbol: " + letter);
        }
        return symbol;
    }

    static long of(String text) {
        long name = 0;
        for (int i = 0; i < text.length(); i++) {
            name |= (long) symbol(text.charAt(i)) << 5 * i;
        }
        return name;
    }
}
