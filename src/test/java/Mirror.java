import java.math.BigInteger;
import java.util.function.Supplier;

/**
 * A WholeRegisters and a Model that get the same calls. Each call's answer, or the very class of
 * what it throws, is checked against the model's. Only the first 512 calls are promised, so that
 * a test that makes more of them on one object is itself at fault.
 */
final class Mirror {
    /** Two numbers that differ have the same residues for all of these by a rare chance only. */
    private static final int[] PRIMES = {2147483647, 2147483629, 2147483587, 1000000007};

    private final String name;
    private final WholeRegisters real = new WholeRegisters();
    private final Model model = new Model();
    private int calls = 0;

    Mirror(String name) {
        this.name = name;
    }

    int callsLeft() {
        return 512 - calls;
    }

    BigInteger value(int r) {
        return model.value(r);
    }

    private void ask(String call, Supplier<Object> asked, Supplier<Object> due) {
        calls++;
        if (calls > 512) {
            throw new AssertionError(name + ": more than 512 calls on one object");
        }
        Check.same(name + ", call " + calls + ": " + call, outcome(asked), outcome(due));
    }

    private static Object outcome(Supplier<Object> call) {
        try {
            return call.get();
        } catch (RuntimeException e) {
            return "throws." + e.getClass().getSimpleName();
        }
    }

    private void act(String call, Runnable asked, Runnable due) {
        ask(call, () -> after(asked), () -> after(due));
    }

    private static Object after(Runnable call) {
        call.run();
        return "nothing";
    }

    private static String text(String method, long... arguments) {
        StringBuilder text = new StringBuilder(method).append('(');
        for (int i = 0; i < arguments.length; i++) {
            text.append(i == 0 ? "" : ", ").append(arguments[i]);
        }
        return text.append(')').toString();
    }

    void set(int r, long v) {
        act(text("set", r, v), () -> real.set(r, v), () -> model.set(r, v));
    }

    void append(int r, int w) {
        act(text("append", r, w), () -> real.append(r, w), () -> model.append(r, w));
    }

    void negate(int r) {
        act(text("negate", r), () -> real.negate(r), () -> model.negate(r));
    }

    void copy(int r, int a) {
        act(text("copy", r, a), () -> real.copy(r, a), () -> model.copy(r, a));
    }

    void add(int r, int a, int b) {
        act(text("add", r, a, b), () -> real.add(r, a, b), () -> model.add(r, a, b));
    }

    void subtract(int r, int a, int b) {
        act(text("subtract", r, a, b), () -> real.subtract(r, a, b), () -> model.subtract(r, a, b));
    }

    void multiply(int r, int a, int b) {
        act(text("multiply", r, a, b), () -> real.multiply(r, a, b), () -> model.multiply(r, a, b));
    }

    void divide(int q, int rest, int a, int b) {
        act(text("divide", q, rest, a, b),
                () -> real.divide(q, rest, a, b), () -> model.divide(q, rest, a, b));
    }

    void root(int r, int a) {
        act(text("root", r, a), () -> real.root(r, a), () -> model.root(r, a));
    }

    void compare(int a, int b) {
        ask(text("compare", a, b), () -> real.compare(a, b), () -> model.compare(a, b));
    }

    void compareSizes(int a, int b) {
        ask(text("compareSizes", a, b),
                () -> real.compareSizes(a, b), () -> model.compareSizes(a, b));
    }

    void sign(int a) {
        ask(text("sign", a), () -> real.sign(a), () -> model.sign(a));
    }

    void bits(int a) {
        ask(text("bits", a), () -> real.bits(a), () -> model.bits(a));
    }

    void word(int a, int k) {
        ask(text("word", a, k), () -> real.word(a, k), () -> model.word(a, k));
    }

    void residue(int a, int m) {
        ask(text("residue", a, m), () -> real.residue(a, m), () -> model.residue(a, m));
    }

    /** Looks at what register a holds, with few calls. */
    void look(int a) {
        sign(a);
        bits(a);
        for (int m : PRIMES) {
            residue(a, m);
        }
        int top = Math.max(0, (value(a).abs().bitLength() - 1) / 32);
        word(a, 0);
        word(a, top);
        // A word that a longer number left behind shows here.
        word(a, Math.min(511, top + 1));
    }

    void lookAtAll() {
        for (int a = 0; a < 12; a++) {
            look(a);
        }
    }

    /** Puts any number into register r, with a call for each of its words and two more. */
    void load(int r, BigInteger value) {
        set(r, 0);
        BigInteger size = value.abs();
        for (int k = (size.bitLength() + 31) / 32 - 1; k >= 0; k--) {
            append(r, size.shiftRight(32 * k).intValue());
        }
        if (value.signum() < 0) {
            negate(r);
        }
    }

    /** Puts 2^8192, whose square is the least number that is too long, into register r. */
    void loadHalfway(int r) {
        set(r, 1L << 32);
        for (int power = 32; power < 8192; power *= 2) {
            multiply(r, r, r);
        }
    }

    /** Puts the greatest number there is, 2^16384 - 1, into register r; uses the spare register. */
    void loadGreatest(int r, int spare) {
        loadHalfway(r);
        set(spare, 1);
        subtract(spare, r, spare);
        // (2^8192 - 1) * 2^8192 + (2^8192 - 1)
        multiply(r, r, spare);
        add(r, r, spare);
    }
}
