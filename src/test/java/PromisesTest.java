import java.math.BigInteger;

/** For each promise: ordinary inputs, the edges that the document names, and wrong inputs. */
public final class PromisesTest {
    private static final int[] WRONG_REGISTERS = {-1, 12, Integer.MIN_VALUE, Integer.MAX_VALUE, 512};
    private static final long[] SMALL = {0, 1, -1, 7, -7, 1L << 32, -(1L << 32), Long.MAX_VALUE,
        Long.MIN_VALUE};

    private PromisesTest() {
    }

    public static void main(String[] args) {
        promise1NewObject();
        promise2Set();
        promise3Append();
        promise3AppendTooLong();
        promise4Negate();
        promise5Copy();
        promise6And7SmallSums();
        promise6And7Carries();
        promise6AddAtFullLength();
        promise7SubtractAtFullLength();
        promise8SmallProducts();
        promise8ProductsAtFullLength();
        promise8OneWordTooMany();
        promise9SmallQuotients();
        promise9SameRegisters();
        promise9LongQuotients();
        promise9WrongInputs();
        promise10SmallRoots();
        promise10LongRoots();
        promise10WrongInputs();
        promises11And12Compare();
        promises13And14SignAndBits();
        promise15Word();
        promise16Residue();
        wrongRegistersChangeNothing();
        sameRegisters();
        Check.end();
    }

    /** Registers with a number of full length, a long one, small ones of both signs, and 0. */
    private static Mirror filled(String name) {
        Mirror x = new Mirror(name);
        x.loadGreatest(0, 1);
        x.set(2, 5);
        x.set(3, -5);
        x.set(5, Long.MIN_VALUE);
        x.copy(6, 1);
        x.negate(6);
        x.set(10, 1L << 40);
        x.copy(11, 0);
        x.negate(11);
        return x;
    }

    private static void promise1NewObject() {
        Mirror x = new Mirror("new object");
        x.lookAtAll();
        Mirror y = new Mirror("new object, words");
        for (int k = 0; k < 512; k += 16) {
            for (int a = 0; a < 12; a++) {
                y.word(a, k);
            }
        }
        Mirror z = new Mirror("new object beside a used one");
        x.set(4, 9);
        z.look(4);
    }

    private static void promise2Set() {
        for (long v : SMALL) {
            Mirror x = filled("set " + v);
            x.set(0, v);
            x.set(11, v);
            x.look(0);
            x.word(0, 1);
            x.word(0, 2);
            x.word(0, 511);
            x.look(11);
            x.look(1);
            x.look(10);
        }
        Mirror x = new Mirror("set to what has many words");
        for (long v = 1; v > 0; v <<= 3) {
            x.set(7, v - 1);
            x.word(7, 0);
            x.word(7, 1);
            x.bits(7);
            x.sign(7);
            x.set(7, -v);
            x.word(7, 0);
            x.word(7, 1);
            x.bits(7);
            x.sign(7);
        }
    }

    private static void promise3Append() {
        Mirror x = new Mirror("append");
        int[] added = {0, 0, 1, 0, -1, Integer.MIN_VALUE, Integer.MAX_VALUE, 0};
        for (int r = 0; r < 12; r += 11) {
            for (int w : added) {
                x.append(r, w);
                x.look(r);
            }
        }
        x.set(1, -3);
        x.append(1, -1);
        x.append(1, 0);
        x.look(1);
        x.word(1, 1);
        x.word(1, 2);
        x.subtract(1, 1, 1);
        x.append(1, 0);
        x.look(1);
        x.append(1, -4);
        x.look(1);
        x.set(2, -1);
        x.set(2, 0);
        x.append(2, 6);
        x.look(2);
        x.negate(3);
        x.append(3, 6);
        x.look(3);
    }

    private static void promise3AppendTooLong() {
        for (int sign = 1; sign >= -1; sign -= 2) {
            Mirror x = new Mirror("append at full length, sign " + sign);
            x.loadHalfway(0);
            x.set(1, 1L << 32);
            x.divide(2, 3, 0, 1);
            x.multiply(0, 0, 2);
            // 2^16352 is the least size that has no room for a word more.
            x.set(4, sign);
            x.divide(0, 3, 0, 4);
            x.append(0, 0);
            x.look(0);
            x.divide(5, 6, 0, 1);
            x.append(5, -1);
            x.look(5);
            x.append(5, 7);
            x.look(5);
            x.set(7, sign);
            x.subtract(8, 0, 7);
            x.append(8, 7);
            x.look(8);
            x.append(8, 8);
            x.look(8);
            x.append(12, 8);
        }
    }

    private static void promise4Negate() {
        Mirror x = filled("negate");
        for (int r = 0; r < 12; r++) {
            x.negate(r);
        }
        x.lookAtAll();
        x.negate(0);
        x.look(0);
        x.compare(0, 11);
        x.set(4, 0);
        x.negate(4);
        x.look(4);
        x.compare(4, 9);
    }

    private static void promise5Copy() {
        Mirror x = filled("copy");
        x.copy(3, 0);
        x.look(3);
        x.copy(0, 2);
        x.look(0);
        x.look(3);
        x.word(0, 511);
        x.copy(11, 11);
        x.look(11);
        x.append(2, 1);
        x.negate(2);
        x.look(0);
        x.look(2);
        x.copy(1, 4);
        x.look(1);
        x.word(1, 100);
    }

    private static void promise6And7SmallSums() {
        for (long v : SMALL) {
            Mirror x = new Mirror("small sums of " + v);
            x.set(11, v);
            for (long w : SMALL) {
                x.set(0, w);
                x.add(5, 11, 0);
                x.look(5);
                x.subtract(5, 11, 0);
                x.look(5);
            }
        }
    }

    private static void promise6And7Carries() {
        BigInteger power = BigInteger.ONE.shiftLeft(640);
        for (int sign = 1; sign >= -1; sign -= 2) {
            Mirror x = new Mirror("a carry through many words, sign " + sign);
            x.load(0, power.multiply(BigInteger.valueOf(sign)));
            x.set(1, sign);
            x.subtract(2, 0, 1);
            x.look(2);
            x.word(2, 10);
            x.add(3, 2, 1);
            x.look(3);
            x.compare(3, 0);
            x.subtract(4, 1, 0);
            x.look(4);
            x.add(5, 2, 2);
            x.look(5);
            x.subtract(6, 2, 0);
            x.look(6);
            x.subtract(7, 0, 2);
            x.look(7);
            x.add(8, 4, 2);
            x.look(8);
        }
    }

    private static void promise6AddAtFullLength() {
        Mirror x = filled("add at full length");
        x.set(8, 1);
        x.set(9, -1);
        x.add(7, 0, 8);
        x.add(7, 8, 0);
        x.add(7, 11, 9);
        x.add(7, 9, 11);
        x.add(7, 0, 0);
        x.add(0, 0, 0);
        x.add(11, 11, 11);
        x.add(8, 8, 0);
        x.look(7);
        x.look(0);
        x.look(8);
        x.look(11);
        x.add(7, 0, 4);
        x.look(7);
        x.add(7, 0, 9);
        x.look(7);
        x.add(7, 7, 8);
        x.look(7);
        x.add(7, 11, 8);
        x.look(7);
        x.add(7, 0, 11);
        x.look(7);
        x.add(0, 11, 0);
        x.look(0);
    }

    private static void promise7SubtractAtFullLength() {
        Mirror x = filled("subtract at full length");
        x.set(8, 1);
        x.set(9, -1);
        x.subtract(7, 0, 9);
        x.subtract(7, 9, 0);
        x.subtract(7, 11, 8);
        x.subtract(7, 8, 11);
        x.subtract(7, 0, 11);
        x.subtract(0, 0, 11);
        x.subtract(11, 11, 0);
        x.look(7);
        x.look(0);
        x.look(11);
        x.subtract(7, 4, 0);
        x.look(7);
        x.subtract(7, 4, 11);
        x.look(7);
        x.subtract(7, 11, 9);
        x.look(7);
        x.subtract(7, 7, 8);
        x.look(7);
        x.subtract(7, 0, 0);
        x.look(7);
        x.subtract(11, 11, 11);
        x.look(11);
    }

    private static void promise8SmallProducts() {
        for (long v : SMALL) {
            Mirror x = new Mirror("small products of " + v);
            x.set(11, v);
            for (long w : SMALL) {
                x.set(0, w);
                x.multiply(5, 11, 0);
                x.look(5);
                x.word(5, 1);
                x.word(5, 2);
                x.multiply(6, 5, 5);
                x.look(6);
            }
        }
    }

    private static void promise8ProductsAtFullLength() {
        Mirror x = filled("multiply at full length");
        // 1 holds 2^8192 - 1, 6 its negative.
        x.multiply(7, 1, 1);
        x.look(7);
        x.multiply(7, 1, 6);
        x.look(7);
        x.set(8, 1);
        x.add(8, 1, 8);
        x.multiply(7, 8, 8);
        x.look(7);
        x.multiply(7, 8, 1);
        x.look(7);
        x.set(9, -1);
        x.multiply(7, 0, 9);
        x.look(7);
        x.multiply(7, 9, 0);
        x.look(7);
        x.multiply(7, 0, 4);
        x.look(7);
        x.multiply(7, 4, 11);
        x.look(7);
        x.set(9, 2);
        x.multiply(7, 0, 9);
        x.multiply(0, 9, 0);
        x.multiply(11, 11, 9);
        x.multiply(11, 11, 11);
        x.look(0);
        x.look(7);
        x.look(11);
    }

    private static void promise8OneWordTooMany() {
        Mirror x = new Mirror("products of 512 words and of 513");
        x.loadHalfway(0);
        // 257 words by 256 words, with small top words and with great ones.
        x.set(1, 1L << 32);
        x.divide(2, 3, 0, 1);
        x.multiply(4, 0, 2);
        x.look(4);
        x.set(5, 0xFFFFFFFFL);
        x.multiply(6, 2, 5);
        x.multiply(7, 0, 6);
        x.look(7);
        x.set(5, 2);
        x.multiply(8, 0, 5);
        x.set(5, 1L << 31);
        x.multiply(9, 2, 5);
        x.look(4);
        x.multiply(4, 8, 9);
        x.multiply(4, 9, 8);
        x.look(4);
        x.set(5, (1L << 31) - 1);
        x.multiply(9, 2, 5);
        x.multiply(4, 8, 9);
        x.look(4);
    }

    private static void promise9SmallQuotients() {
        for (long v : SMALL) {
            Mirror x = new Mirror("small quotients of " + v);
            x.set(11, v);
            for (long w : SMALL) {
                x.set(0, w);
                x.divide(5, 6, 11, 0);
                x.look(5);
                x.look(6);
                x.divide(7, 8, 0, 11);
                x.look(7);
                x.look(8);
            }
        }
    }

    /** Any of q, rest, a and b may be the same register, but for q and rest. */
    private static void promise9SameRegisters() {
        BigInteger a = new BigInteger("-123456789012345678901234567890123456789012345678901");
        BigInteger b = new BigInteger("987654321098765432109876543210");
        for (int q = 0; q < 4; q++) {
            for (int rest = 0; rest < 4; rest++) {
                for (int divided = 0; divided < 2; divided++) {
                    for (int by = 0; by < 2; by++) {
                        Mirror x = new Mirror("same registers in divide");
                        x.load(0, a);
                        x.load(1, b);
                        x.divide(q, rest, divided, by);
                        for (int r = 0; r < 4; r++) {
                            x.look(r);
                        }
                    }
                }
            }
        }
    }

    private static void promise9LongQuotients() {
        Mirror x = filled("divide at full length");
        int[] divisors = {1, 2, 3, 5, 6, 10, 0, 11};
        for (int b : divisors) {
            x.divide(7, 8, 0, b);
            x.look(7);
            x.look(8);
            x.divide(7, 8, b, 11);
            x.look(7);
            x.look(8);
        }
        x.set(9, 1);
        x.subtract(4, 0, 9);
        x.divide(7, 8, 4, 0);
        x.look(7);
        x.look(8);
        x.divide(7, 8, 11, 4);
        x.look(7);
        x.look(8);
        x.divide(7, 8, 11, 9);
        x.look(7);
        x.look(8);
    }

    private static void promise9WrongInputs() {
        Mirror x = filled("divide with wrong inputs");
        x.divide(7, 7, 0, 2);
        x.divide(0, 0, 0, 2);
        x.divide(7, 8, 0, 4);
        x.divide(0, 4, 0, 4);
        x.divide(4, 0, 4, 4);
        x.divide(7, 7, 0, 4);
        x.divide(12, 12, 0, 4);
        x.divide(7, 7, -1, 4);
        x.divide(7, 7, 0, 12);
        x.divide(7, 12, 0, 4);
        x.lookAtAll();
    }

    private static void promise10SmallRoots() {
        Mirror x = new Mirror("small roots");
        for (long v = 0; v <= 26; v++) {
            x.set(11, v);
            x.root(0, 11);
            x.look(0);
        }
        x.look(11);
        long[] roots = {1L << 16, 65535, 46341, 2147483647, 2147483648L, 3037000499L};
        for (long root : roots) {
            Mirror y = new Mirror("root of the square of " + root + " and what lies around it");
            for (long near = -1; near <= 1; near++) {
                y.set(3, root * root + near);
                y.root(4, 3);
                y.look(4);
                y.root(3, 3);
                y.look(3);
            }
        }
    }

    private static void promise10LongRoots() {
        Mirror x = filled("root at full length");
        x.root(7, 0);
        x.look(7);
        x.compare(7, 1);
        x.set(9, 1);
        x.multiply(8, 1, 1);
        x.root(7, 8);
        x.look(7);
        x.subtract(8, 8, 9);
        x.root(7, 8);
        x.look(7);
        x.root(0, 0);
        x.look(0);
        x.root(0, 0);
        x.look(0);
        x.root(7, 4);
        x.look(7);
        Mirror y = new Mirror("root of 2^16383");
        y.loadHalfway(0);
        y.set(1, 2);
        y.divide(2, 3, 0, 1);
        y.multiply(0, 0, 2);
        y.bits(0);
        y.root(11, 0);
        y.look(11);
        y.word(11, 100);
    }

    private static void promise10WrongInputs() {
        Mirror x = filled("root of what is below 0");
        x.root(7, 3);
        x.root(3, 3);
        x.root(0, 11);
        x.set(8, -1);
        x.root(7, 8);
        x.root(12, 3);
        x.root(-1, 3);
        x.root(7, 12);
        x.lookAtAll();
    }

    private static void promises11And12Compare() {
        Mirror x = filled("compare");
        x.set(8, Long.MAX_VALUE);
        x.set(9, 1);
        x.subtract(7, 0, 9);
        for (int a = 0; a < 12; a++) {
            for (int b = 0; b < 12; b++) {
                x.compare(a, b);
                x.compareSizes(a, b);
            }
        }
        Mirror y = new Mirror("compare words without signs");
        y.set(0, 0x7FFFFFFFL);
        y.set(1, 0x80000000L);
        y.set(2, 0xFFFFFFFFL);
        y.set(3, 0x7FFFFFFF00000001L);
        y.set(4, 0x7FFFFFFFFFFFFFFFL);
        y.set(5, 0x7FFFFFFF80000000L);
        y.set(6, Long.MIN_VALUE);
        y.set(7, -0x80000000L);
        y.set(8, -0x7FFFFFFFL);
        for (int a = 0; a < 10; a++) {
            for (int b = 0; b < 10; b++) {
                y.compare(a, b);
                y.compareSizes(a, b);
            }
        }
    }

    private static void promises13And14SignAndBits() {
        Mirror x = filled("sign and bits");
        for (int a = 0; a < 12; a++) {
            x.sign(a);
            x.bits(a);
        }
        Mirror y = new Mirror("bits of the powers of two");
        for (int bit = 0; bit < 63; bit++) {
            y.set(11, 1L << bit);
            y.bits(11);
            y.set(11, (1L << bit) - 1);
            y.bits(11);
            y.set(11, -(1L << bit));
            y.bits(11);
            y.sign(11);
        }
    }

    private static void promise15Word() {
        Mirror x = new Mirror("word");
        for (int k = 0; k < 40; k++) {
            x.append(11, (k - 20) * 123456789);
        }
        x.negate(11);
        for (int k = 0; k < 45; k++) {
            x.word(11, k);
            x.word(0, k);
        }
        int[] wrong = {-1, 512, 513, Integer.MIN_VALUE, Integer.MAX_VALUE};
        for (int k : wrong) {
            x.word(0, k);
            x.word(11, k);
            x.word(12, k);
        }
        x.loadGreatest(5, 6);
        for (int k = 500; k < 512; k++) {
            x.word(5, k);
            x.word(6, k);
        }
        x.look(11);
    }

    private static void promise16Residue() {
        int[] moduli = {1, 2, 3, 5, 10, 65536, 65537, 1 << 30, Integer.MAX_VALUE};
        int[] wrong = {0, -1, -7, Integer.MIN_VALUE};
        Mirror x = filled("residue");
        for (int a = 0; a < 12; a++) {
            for (int m : moduli) {
                x.residue(a, m);
            }
            for (int m : wrong) {
                x.residue(a, m);
            }
        }
        x.residue(12, 0);
        x.residue(-1, 5);
        Mirror y = new Mirror("residues of small numbers");
        for (int v = -12; v <= 12; v++) {
            y.set(0, v);
            for (int m = 1; m <= 13; m++) {
                y.residue(0, m);
            }
        }
    }

    private static void wrongRegistersChangeNothing() {
        for (int wrong : WRONG_REGISTERS) {
            Mirror x = filled("no register " + wrong);
            x.set(wrong, 1);
            x.append(wrong, 1);
            x.negate(wrong);
            x.copy(wrong, 0);
            x.copy(0, wrong);
            x.add(wrong, 2, 3);
            x.add(2, wrong, 3);
            x.add(2, 3, wrong);
            // Too long as well: that there is no such register comes first.
            x.add(wrong, 0, 0);
            x.subtract(wrong, 2, 3);
            x.subtract(2, wrong, 3);
            x.subtract(2, 3, wrong);
            x.subtract(wrong, 0, 11);
            x.multiply(wrong, 2, 3);
            x.multiply(2, wrong, 3);
            x.multiply(2, 3, wrong);
            x.multiply(wrong, 0, 0);
            x.divide(wrong, 2, 0, 3);
            x.divide(2, wrong, 0, 3);
            x.divide(2, 3, wrong, 5);
            x.divide(2, 3, 0, wrong);
            x.divide(wrong, wrong, wrong, wrong);
            x.root(wrong, 0);
            x.root(2, wrong);
            x.compare(wrong, 0);
            x.compare(0, wrong);
            x.compareSizes(wrong, 0);
            x.compareSizes(0, wrong);
            x.sign(wrong);
            x.bits(wrong);
            x.word(wrong, 0);
            x.residue(wrong, 5);
            x.lookAtAll();
        }
    }

    private static void sameRegisters() {
        for (int r = 0; r < 12; r += 11) {
            Mirror x = filled("same registers");
            x.set(r, -77777777777L);
            x.append(r, 12345);
            x.add(r, r, 2);
            x.look(r);
            x.add(r, 3, r);
            x.look(r);
            x.add(r, r, r);
            x.look(r);
            x.subtract(r, r, 3);
            x.look(r);
            x.subtract(r, 3, r);
            x.look(r);
            x.multiply(r, r, 5);
            x.look(r);
            x.multiply(r, 3, r);
            x.look(r);
            x.multiply(r, r, r);
            x.look(r);
            x.root(r, r);
            x.look(r);
            x.compare(r, r);
            x.compareSizes(r, r);
            x.copy(r, r);
            x.look(r);
            x.subtract(r, r, r);
            x.look(r);
        }
    }
}
