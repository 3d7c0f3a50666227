import java.util.Random;

/** Runs of calls by chance (the same ones each time), right and wrong arguments mixed. */
public final class RandomRunsTest {
    private static final int RUNS = 300;
    private static final int CALLS = 380;
    private static final long[] VALUES = {0, 1, -1, 2, -3, 10, 0x7FFFFFFFL, 0x80000000L, 0xFFFFFFFFL,
        -0xFFFFFFFFL, 1L << 32, Long.MAX_VALUE, Long.MIN_VALUE};

    private final Random random;
    private final Mirror x;

    private RandomRunsTest(int seed) {
        random = new Random(seed);
        x = new Mirror("random run " + seed);
    }

    public static void main(String[] args) {
        for (int seed = 1; seed <= RUNS; seed++) {
            new RandomRunsTest(seed).run();
        }
        Check.end();
    }

    private void run() {
        for (int call = 0; call < CALLS; call++) {
            if (random.nextInt(3) == 0) {
                question();
            } else {
                change();
            }
        }
        x.lookAtAll();
    }

    private int register() {
        int chance = random.nextInt(100);
        return chance == 0 ? 12 : chance == 1 ? -1 : random.nextInt(12);
    }

    private int someWord() {
        return random.nextBoolean() ? random.nextInt() : (int) VALUES[random.nextInt(VALUES.length)];
    }

    private void change() {
        switch (random.nextInt(12)) {
            case 0 -> x.set(register(), VALUES[random.nextInt(VALUES.length)]);
            case 1 -> x.set(register(), random.nextLong() >> random.nextInt(64));
            case 2, 3 -> x.append(register(), someWord());
            case 4 -> x.negate(register());
            case 5 -> x.copy(register(), register());
            case 6 -> x.add(register(), register(), register());
            case 7 -> x.subtract(register(), register(), register());
            case 8, 9 -> x.multiply(register(), register(), register());
            case 10 -> x.divide(register(), register(), register(), register());
            default -> x.root(register(), register());
        }
    }

    private void question() {
        switch (random.nextInt(7)) {
            case 0 -> x.compare(register(), register());
            case 1 -> x.compareSizes(register(), register());
            case 2 -> x.sign(register());
            case 3 -> x.bits(register());
            case 4 -> x.word(register(), random.nextInt(10) == 0 ? someWord() : random.nextInt(513));
            case 5 -> x.word(register(), random.nextInt(4));
            default -> x.residue(register(), random.nextInt() >> random.nextInt(32));
        }
    }
}
