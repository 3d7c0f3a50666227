import java.math.BigInteger;

/** The document's promises once more, in the plainest words that BigInteger has for them. */
final class Model {
    static final BigInteger TOO_LONG = BigInteger.ONE.shiftLeft(16384);
    private final BigInteger[] holds = new BigInteger[12];

    Model() {
        for (int r = 0; r < holds.length; r++) {
            holds[r] = BigInteger.ZERO;
        }
    }

    BigInteger value(int r) {
        return holds[r];
    }

    private static void registers(int... all) {
        for (int r : all) {
            if (r < 0 || r > 11) {
                throw new IndexOutOfBoundsException();
            }
        }
    }

    private void put(int r, BigInteger value) {
        if (value.abs().compareTo(TOO_LONG) >= 0) {
            throw new IllegalStateException();
        }
        holds[r] = value;
    }

    void set(int r, long v) {
        registers(r);
        put(r, BigInteger.valueOf(v));
    }

    void append(int r, int w) {
        registers(r);
        BigInteger size = holds[r].abs().shiftLeft(32).add(BigInteger.valueOf(w & 0xFFFFFFFFL));
        put(r, holds[r].signum() < 0 ? size.negate() : size);
    }

    void negate(int r) {
        registers(r);
        put(r, holds[r].negate());
    }

    void copy(int r, int a) {
        registers(r, a);
        put(r, holds[a]);
    }

    void add(int r, int a, int b) {
        registers(r, a, b);
        put(r, holds[a].add(holds[b]));
    }

    void subtract(int r, int a, int b) {
        registers(r, a, b);
        put(r, holds[a].subtract(holds[b]));
    }

    void multiply(int r, int a, int b) {
        registers(r, a, b);
        put(r, holds[a].multiply(holds[b]));
    }

    void divide(int q, int rest, int a, int b) {
        registers(q, rest, a, b);
        if (q == rest || holds[b].signum() == 0) {
            throw new IllegalArgumentException();
        }
        BigInteger[] both = holds[a].divideAndRemainder(holds[b]);
        put(q, both[0]);
        put(rest, both[1]);
    }

    void root(int r, int a) {
        registers(r, a);
        if (holds[a].signum() < 0) {
            throw new IllegalArgumentException();
        }
        put(r, holds[a].sqrt());
    }

    int compare(int a, int b) {
        registers(a, b);
        return holds[a].compareTo(holds[b]);
    }

    int compareSizes(int a, int b) {
        registers(a, b);
        return holds[a].abs().compareTo(holds[b].abs());
    }

    int sign(int a) {
        registers(a);
        return holds[a].signum();
    }

    int bits(int a) {
        registers(a);
        return holds[a].abs().bitLength();
    }

    int word(int a, int k) {
        registers(a);
        if (k < 0 || k > 511) {
            throw new IndexOutOfBoundsException();
        }
        return holds[a].abs().shiftRight(32 * k).intValue();
    }

    int residue(int a, int m) {
        registers(a);
        if (m < 1) {
            throw new IllegalArgumentException();
        }
        return holds[a].mod(BigInteger.valueOf(m)).intValue();
    }
}
