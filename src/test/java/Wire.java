import java.math.BigInteger;
import java.util.ArrayList;
import java.util.List;

/**
 * The document's terms for the bits on the air, written a second time and in another way than in the
 * program (lists, and division of whole polynomials), so that a slip in one shows against the other.
 */
final class Wire {
    private Wire() {
    }

    static List<Integer> number(int number, int n) {
        List<Integer> row = new ArrayList<>();
        for (int i = 0; i < n; i++) {
            row.add(number >> i & 1);
        }
        return row;
    }

    /** "0110" as a row. */
    static List<Integer> row(String bits) {
        List<Integer> row = new ArrayList<>();
        for (char bit : bits.toCharArray()) {
            row.add(bit - '0');
        }
        return row;
    }

    static int numberOf(List<Integer> row) {
        int number = 0;
        for (int i = 0; i < row.size(); i++) {
            number += row.get(i) << i;
        }
        return number;
    }

    /** REM(row, g, n) as a row of n bits, highest first. */
    static List<Integer> rem(List<Integer> row, int g, int n) {
        BigInteger divisor = BigInteger.valueOf(g);
        BigInteger rest = BigInteger.ZERO;
        for (int bit : row) {
            rest = rest.shiftLeft(1).add(BigInteger.valueOf(bit));
        }
        rest = rest.shiftLeft(n);
        while (rest.bitLength() > n) {
            rest = rest.xor(divisor.shiftLeft(rest.bitLength() - 1 - n));
        }
        List<Integer> remainder = new ArrayList<>();
        for (int i = n - 1; i >= 0; i--) {
            remainder.add(rest.testBit(i) ? 1 : 0);
        }
        return remainder;
    }

    static List<Integer> withRem(List<Integer> row, int g, int n) {
        List<Integer> whole = new ArrayList<>(row);
        whole.addAll(rem(row, g, n));
        return whole;
    }

    static boolean holds(List<Integer> row, int g, int n) {
        int checked = row.size() - n;
        return rem(row.subList(0, checked), g, n).equals(row.subList(checked, row.size()));
    }

    static List<Integer> white(int clock, int bits) {
        List<Integer> w = number(64 + clock % 64, 7);
        while (w.size() < bits) {
            w.add(w.get(w.size() - 7) ^ w.get(w.size() - 3));
        }
        return w;
    }

    static List<Integer> whitened(List<Integer> row, int clock, int start) {
        List<Integer> w = white(clock, start + row.size());
        List<Integer> mixed = new ArrayList<>();
        for (int i = 0; i < row.size(); i++) {
            mixed.add(row.get(i) ^ w.get(start + i));
        }
        return mixed;
    }

    /** The 18 bits of HEAD, not yet whitened. */
    static List<Integer> head(int address, int kind, int one, int ack, int turn) {
        List<Integer> row = number(address, 3);
        row.addAll(number(kind, 4));
        row.addAll(List.of(one, ack, turn));
        return withRem(row, 423, 8);
    }

    /** LOAD, not yet whitened, with any number in front. */
    static List<Integer> load(int number, int... bytes) {
        List<Integer> row = number(number, 8);
        for (int b : bytes) {
            row.addAll(number(b, 8));
        }
        return withRem(row, 69665, 16);
    }

    static List<Integer> headOnAir(List<Integer> head, int clock) {
        List<Integer> air = new ArrayList<>();
        for (int bit : whitened(head, clock, 0)) {
            air.addAll(List.of(bit, bit, bit));
        }
        return air;
    }

    static List<Integer> loadOnAir(boolean guarded, List<Integer> load, int clock) {
        List<Integer> row = whitened(load, clock, 18);
        if (!guarded) {
            return row;
        }
        while (row.size() % 10 != 0) {
            row.add(0);
        }
        List<Integer> air = new ArrayList<>();
        for (int i = 0; i < row.size(); i += 10) {
            air.addAll(withRem(row.subList(i, i + 10), 53, 5));
        }
        return air;
    }

    static List<Integer> bare(int address, int kind, int ack, int turn, int clock) {
        return headOnAir(head(address, kind, 1, ack, turn), clock);
    }

    /** A frame with a load as the air has it; the kind tells how the load is sent. */
    static List<Integer> frame(List<Integer> head, List<Integer> load, int clock) {
        List<Integer> air = headOnAir(head, clock);
        air.addAll(loadOnAir(numberOf(head.subList(3, 7)) == 3, load, clock));
        return air;
    }
}
