import java.math.BigInteger;
import java.util.ArrayList;
import java.util.List;
import java.util.function.Consumer;
import java.util.function.Function;

/**
 * A run of calls on a new object, each with the answer that the test itself writes down.
 *
 * <p>A register has as many words as an object has promised calls, so that nobody can look at all
 * of it on one object: the same calls are made again on new objects, each of which then tells half
 * a register.
 */
final class Script {
    static final BigInteger GREATEST = power(16384).subtract(BigInteger.ONE);
    static final int REGISTERS = 12;
    private static final int PROMISED_CALLS = 512;
    private static final int WORDS = 512;
    private static final int WORDS_AT_ONCE = WORDS / 2;

    private final String name;
    private final WholeRegisters object = new WholeRegisters();
    private final List<Function<WholeRegisters, Object>> calls = new ArrayList<>();
    private List<Held> seen = null;
    private int callsWhenSeen = -1;

    /** All that can be read of one register. */
    private record Held(int sign, int bits, BigInteger size) {
        static Held of(BigInteger value) {
            return new Held(value.signum(), value.abs().bitLength(), value.abs());
        }

        @Override
        public String toString() {
            String digits = size.toString(16);
            if (digits.length() > 40) {
                digits = digits.substring(0, 16) + ".." + digits.substring(digits.length() - 16);
            }
            return "sign " + sign + ", " + bits + " bits, size 0x" + digits;
        }
    }

    Script(String name) {
        this.name = name;
    }

    static BigInteger power(int bit) {
        return BigInteger.ONE.shiftLeft(bit);
    }

    void call(Consumer<WholeRegisters> call) {
        ask("nothing", answerOf(call));
    }

    void answers(int due, Function<WholeRegisters, Integer> call) {
        ask(due, call::apply);
    }

    /** The call throws just this, and every bit of every register stays. */
    void refused(Class<? extends RuntimeException> due, Consumer<WholeRegisters> call) {
        List<Held> before = lookAtAll();
        ask("throws." + due.getSimpleName(), answerOf(call));
        List<Held> after = lookAtAll();
        for (int r = 0; r < REGISTERS; r++) {
            Check.same(place() + " was refused, register " + r, after.get(r), before.get(r));
        }
    }

    void holds(int r, BigInteger due) {
        Check.same(place() + ", then register " + r, lookAt(r), Held.of(due));
    }

    void holds(int r, long due) {
        holds(r, BigInteger.valueOf(due));
    }

    /** Puts 2^bit into register r. */
    void loadPower(int r, int bit) {
        call(x -> x.set(r, 1));
        for (int at = 31 - Integer.numberOfLeadingZeros(bit); at >= 0; at--) {
            call(x -> x.multiply(r, r, r));
            if ((bit >> at & 1) == 1) {
                call(x -> x.add(r, r, r));
            }
        }
    }

    /** Puts 2^bit - 1 into register r, and 1 into the spare register. */
    void loadPowerLess1(int r, int bit, int spare) {
        loadPower(r, bit - 1);
        call(x -> x.set(spare, 1));
        // Half the power and what is 1 less than that: 2^16384 itself has no room.
        call(x -> x.subtract(r, r, spare));
        call(x -> x.add(r, r, r));
        call(x -> x.add(r, r, spare));
    }

    /** Puts 2^16384 - 1 into register r, and 1 into the spare register. */
    void loadGreatest(int r, int spare) {
        loadPowerLess1(r, 16384, spare);
    }

    /** Puts a number of a few words into register r. */
    void load(int r, BigInteger value) {
        BigInteger size = value.abs();
        call(x -> x.set(r, 0));
        for (int k = (size.bitLength() + 31) / 32 - 1; k >= 0; k--) {
            int word = size.shiftRight(32 * k).intValue();
            call(x -> x.append(r, word));
        }
        if (value.signum() < 0) {
            call(x -> x.negate(r));
        }
    }

    private static Function<WholeRegisters, Object> answerOf(Consumer<WholeRegisters> call) {
        return x -> {
            call.accept(x);
            return "nothing";
        };
    }

    private void ask(Object due, Function<WholeRegisters, Object> call) {
        calls.add(call);
        if (calls.size() > PROMISED_CALLS) {
            throw new AssertionError(name + ": more than 512 calls on one object");
        }
        Check.same(place(), outcome(object, call), due);
    }

    private String place() {
        return name + ", call " + calls.size();
    }

    private static Object outcome(WholeRegisters x, Function<WholeRegisters, Object> call) {
        try {
            return call.apply(x);
        } catch (RuntimeException e) {
            return "throws." + e.getClass().getSimpleName();
        }
    }

    private List<Held> lookAtAll() {
        if (callsWhenSeen != calls.size()) {
            seen = new ArrayList<>();
            for (int r = 0; r < REGISTERS; r++) {
                seen.add(lookAt(r));
            }
            callsWhenSeen = calls.size();
        }
        return seen;
    }

    private Held lookAt(int r) {
        BigInteger size = BigInteger.ZERO;
        int sign = 0;
        int bits = 0;
        for (int from = 0; from < WORDS; from += WORDS_AT_ONCE) {
            WholeRegisters x = again();
            sign = x.sign(r);
            bits = x.bits(r);
            for (int k = from; k < from + WORDS_AT_ONCE; k++) {
                long word = x.word(r, k) & 0xFFFFFFFFL;
                size = word == 0 ? size : size.or(BigInteger.valueOf(word).shiftLeft(32 * k));
            }
        }
        return new Held(sign, bits, size);
    }

    private WholeRegisters again() {
        if (calls.size() + WORDS_AT_ONCE + 2 > PROMISED_CALLS) {
            throw new AssertionError(name + ": too many calls to look at a register behind them");
        }
        WholeRegisters x = new WholeRegisters();
        for (Function<WholeRegisters, Object> call : calls) {
            outcome(x, call);
        }
        return x;
    }
}
