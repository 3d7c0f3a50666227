import java.lang.management.ManagementFactory;

/** All memory is the object's own and made once: a call that throws nothing makes nothing. */
public final class MemoryTest {
    private static final int ROUNDS = 20;

    /** Less than one row of 512 words for each round, but more than the machine's own noise. */
    private static final long MOST_BYTES = ROUNDS * 1000L;

    private MemoryTest() {
    }

    public static void main(String[] args) {
        com.sun.management.ThreadMXBean threads =
                (com.sun.management.ThreadMXBean) ManagementFactory.getThreadMXBean();
        useEverything(new WholeRegisters());
        WholeRegisters x = new WholeRegisters();
        threads.getCurrentThreadAllocatedBytes();
        long before = threads.getCurrentThreadAllocatedBytes();
        useEverything(x);
        long made = threads.getCurrentThreadAllocatedBytes() - before;
        Check.same("the calls make little or nothing (" + made + " bytes)", made < MOST_BYTES, true);
        before = threads.getCurrentThreadAllocatedBytes();
        x = new WholeRegisters();
        made = threads.getCurrentThreadAllocatedBytes() - before;
        Check.same("an object is small (" + made + " bytes)", made < 40000, true);
        Check.same("the new object's sign", x.sign(0), 0);
        Check.end();
    }

    private static void useEverything(WholeRegisters x) {
        for (int i = 0; i < ROUNDS; i++) {
            x.set(0, 1234567890123456789L);
            x.append(0, i);
            x.multiply(1, 0, 0);
            x.multiply(1, 1, 1);
            x.negate(0);
            x.add(2, 0, 1);
            x.subtract(3, 0, 1);
            x.divide(4, 5, 1, 0);
            x.root(6, 1);
            x.copy(7, 6);
            x.compare(6, 7);
            x.compareSizes(6, 7);
            x.sign(6);
            x.bits(6);
            x.word(6, 1);
            x.residue(6, 1000003);
        }
    }
}
