import java.math.BigInteger;
import java.util.Random;

/**
 * Products, quotients and roots of numbers whose words are picked so that carries run far and
 * guessed digits are wrong, which words by chance alone hardly ever bring about.
 */
public final class LongNumbersTest {
    private static final int[] EDGES = {0, 1, 2, -1, -2, 0x7FFFFFFF, 0x80000000, 0x80000001,
        0x40000000, 0xFFFF0000, 0x0000FFFF, 0xBFFFFFFF};
    private final Random random = new Random(20261115);

    private LongNumbersTest() {
    }

    public static void main(String[] args) {
        LongNumbersTest test = new LongNumbersTest();
        for (int i = 0; i < 6000; i++) {
            test.numbersOf(8, "short numbers " + i);
        }
        for (int i = 0; i < 600; i++) {
            test.numbersOf(170, "long numbers " + i);
        }
        for (int i = 0; i < 200; i++) {
            test.numbersOfFullLength("numbers of full length " + i);
        }
        Check.end();
    }

    private int someWord(int kind) {
        if (kind == 0) {
            return random.nextInt();
        }
        if (kind == 1 || random.nextInt(4) == 0) {
            return EDGES[random.nextInt(EDGES.length)];
        }
        return -random.nextInt(2);
    }

    private BigInteger number(int mostWords) {
        int kind = random.nextInt(3);
        BigInteger size = BigInteger.ZERO;
        for (int i = random.nextInt(mostWords + 1); i > 0; i--) {
            size = size.shiftLeft(32).add(BigInteger.valueOf(someWord(kind) & 0xFFFFFFFFL));
        }
        size = size.shiftRight(random.nextInt(33));
        return random.nextBoolean() ? size : size.negate();
    }

    private void numbersOf(int mostWords, String name) {
        Mirror x = new Mirror(name);
        x.load(0, number(mostWords));
        x.load(1, number(random.nextBoolean() ? mostWords : 1 + mostWords / 3));
        x.divide(2, 3, 0, 1);
        x.look(2);
        x.look(3);
        x.multiply(4, 0, 1);
        x.look(4);
        nearMultiples(x);
        nearSquares(x);
    }

    /** A product and what lies by 1 beside it have the quotients that are hardest to guess. */
    private void nearMultiples(Mirror x) {
        x.set(5, random.nextInt(3) - 1);
        x.add(4, 4, 5);
        x.divide(6, 7, 4, 1);
        x.look(6);
        x.look(7);
        x.divide(4, 7, 4, 0);
        x.look(4);
        x.look(7);
    }

    private void nearSquares(Mirror x) {
        x.root(8, 0);
        x.look(8);
        x.multiply(9, 0, 0);
        x.root(8, 9);
        x.look(8);
        x.add(10, 9, 5);
        x.root(8, 10);
        x.look(8);
        x.add(10, 9, 0);
        x.add(10, 10, 0);
        x.root(8, 10);
        x.look(8);
        x.add(10, 10, 5);
        x.root(10, 10);
        x.look(10);
    }

    /** Blocks of words are put behind one another: an append for each word is too many calls. */
    private void numbersOfFullLength(String name) {
        Mirror x = new Mirror(name);
        x.load(0, number(32).abs().setBit(1023).shiftRight(random.nextInt(33)));
        x.load(3, number(60));
        x.load(4, number(100));
        loadBlocks(x);
        x.multiply(2, 0, 0);
        x.look(2);
        x.root(10, 2);
        x.look(10);
        x.add(5, 2, 3);
        x.root(10, 5);
        x.look(10);
        x.divide(6, 7, 5, 0);
        x.look(6);
        x.look(7);
        x.divide(6, 7, 5, 3);
        x.look(6);
        x.look(7);
        x.divide(8, 9, 5, 4);
        x.look(8);
        x.look(9);
        x.multiply(8, 8, 4);
        x.add(8, 8, 9);
        x.compare(8, 5);
        x.multiply(11, 0, 1);
        x.look(11);
        x.subtract(11, 11, 4);
        x.divide(6, 7, 11, 0);
        x.look(6);
        x.look(7);
        x.subtract(11, 2, 11);
        x.look(11);
    }

    /** Makes eight blocks of what register 0 holds there, and 2^8192 in register 1. */
    private static void loadBlocks(Mirror x) {
        x.set(1, 1L << 32);
        for (int power = 32; power < 8192; power *= 2) {
            if (power >= 1024) {
                x.multiply(2, 0, 1);
                x.add(0, 2, 0);
            }
            x.multiply(1, 1, 1);
        }
    }
}
