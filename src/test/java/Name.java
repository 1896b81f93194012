/** Names written as texts: a to z, the stroke, the dot, and ! @ # for the symbols 29, 30, 31. */
final class Name {
    private static final String SYMBOLS = " abcdefghijklmnopqrstuvwxyz/.!@#";

    private Name() {
    }

    static int symbol(char letter) {
        int symbol = SYMBOLS.indexOf(letter);
        if (symbol <= 0) {
            throw new IllegalArgumentException("no symbol: " + letter);
        }
        return symbol;
    }

    static long of(String text) {
        long name = 0;
        for (int i = 0; i < text.length(); i++) {
            name |= (long) symbol(text.charAt(i)) << 5 * i;
        }
        return name;
    }

    /** The symbols of a long up to its first 0. */
    static String text(long name) {
        StringBuilder text = new StringBuilder();
        for (int i = 0; i < 12 && (name >> 5 * i & 31) != 0; i++) {
            text.append(SYMBOLS.charAt((int) (name >> 5 * i & 31)));
        }
        return text.toString();
    }
}
