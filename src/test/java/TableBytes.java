import java.util.ArrayList;
import java.util.List;

/** A row of bytes that a test writes piece by piece, right or wrong as it likes. */
final class TableBytes {
    private final List<Integer> bytes = new ArrayList<>();
    private int varints;
    private int spoiled = -1;
    private int[] tail;

    static TableBytes head(int low, int high) {
        return new TableBytes().raw(82).varint(low).varint(high);
    }

    TableBytes raw(int... values) {
        for (int value : values) {
            bytes.add(value);
        }
        return this;
    }

    TableBytes varint(int number) {
        int rest = number;
        while (rest >= 128) {
            bytes.add(rest % 128 + 128);
            rest /= 128;
        }
        bytes.add(rest);
        if (varints == spoiled) {
            bytes.set(bytes.size() - 1, rest + 128);
            raw(tail);
        }
        varints++;
        return this;
    }

    /** The varint number which (from 0) will go on with these bytes where it should end. */
    TableBytes spoil(int which, int... bytesBehind) {
        spoiled = which;
        tail = bytesBehind;
        return this;
    }

    /** How many varints were written so far. */
    int varints() {
        return varints;
    }

    TableBytes symbols(String text) {
        for (char letter : text.toCharArray()) {
            bytes.add(Name.symbol(letter));
        }
        return this;
    }

    /** A record of kind 0, with the symbols behind those shared. */
    TableBytes absent(int shared, String rest, int since) {
        return varint(shared).varint(4 * rest.length()).symbols(rest).varint(since);
    }

    TableBytes number(int shared, String rest, int since, int number) {
        return varint(shared).varint(4 * rest.length() + 1).symbols(rest).varint(since).varint(number);
    }

    TableBytes link(int shared, String rest, int since, String to) {
        varint(shared).varint(4 * rest.length() + 2).symbols(rest).varint(since);
        return varint(to.length()).symbols(to);
    }

    TableBytes entry(int shared, String rest, int time, int oldNumber, int newNumber) {
        varint(shared).varint(rest.length()).symbols(rest).varint(time);
        return varint(oldNumber).varint(newNumber);
    }

    int length() {
        return bytes.size();
    }

    /** All bytes so far, and the check behind them. */
    int[] checked() {
        return checked(bytes.stream().mapToInt(Integer::intValue).toArray());
    }

    static int[] checked(int[] body) {
        int[] all = java.util.Arrays.copyOf(body, body.length + 2);
        int check = check(body);
        all[body.length] = check / 256;
        all[body.length + 1] = check % 256;
        return all;
    }

    /** The check by dividing polynomials bit by bit, unlike the program's way of doing it. */
    private static int check(int[] body) {
        int rest = 65535;
        for (int b : body) {
            for (int bit = 7; bit >= 0; bit--) {
                boolean out = (rest >> 15 & 1) != (b >> bit & 1);
                rest = rest * 2 % 65536;
                if (out) {
                    rest ^= 4129;
                }
            }
        }
        return rest;
    }
}
