import java.math.BigInteger;

/** A test for each sentence of the document's promises that names a boundary case. */
public final class PromisesBoundaryTest {
    private static final Class<? extends RuntimeException> TOO_LONG = IllegalStateException.class;
    private static final Class<? extends RuntimeException> WRONG_ARGUMENT =
            IllegalArgumentException.class;
    private static final Class<? extends RuntimeException> NO_WORD =
            IndexOutOfBoundsException.class;
    private static final BigInteger GREATEST = Script.GREATEST;

    /** The place of each of the rising numbers' sizes among the sizes. */
    private static final int[] SIZE_PLACES = {7, 5, 3, 2, 1, 0, 1, 2, 3, 4, 6, 7};

    private PromisesBoundaryTest() {
    }

    public static void main(String[] args) throws IllegalAccessException {
        NamedTests.run(PromisesBoundaryTest.class);
    }

    /** Register 0 holds the greatest number there is, 11 the least, 1 and 2 hold 1 and -1. */
    private static Script full(String name) {
        Script s = new Script(name);
        s.loadGreatest(0, 1);
        s.call(x -> x.set(2, -1));
        s.call(x -> x.copy(11, 0));
        s.call(x -> x.negate(11));
        return s;
    }

    private static BigInteger big(long value) {
        return BigInteger.valueOf(value);
    }

    // Promise 1: "All registers hold 0."

    static void promise1NewObjectHolds0InAllRegisters(String name) {
        Script s = new Script(name);
        for (int r = 0; r < Script.REGISTERS; r++) {
            int register = r;
            s.answers(0, x -> x.sign(register));
            s.answers(0, x -> x.bits(register));
            s.answers(0, x -> x.residue(register, 7));
            s.holds(r, 0);
        }
    }

    static void promise1NewObjectHolds0WhateverOthersHold(String name) {
        Script used = full(name);
        used.holds(0, GREATEST);
        Script s = new Script(name);
        for (int r = 0; r < Script.REGISTERS; r++) {
            s.holds(r, 0);
        }
        used.holds(0, GREATEST);
    }

    // Promise 2: "Register r holds v."

    private static void setOverAllLengths(String name, long v) {
        Script s = full(name);
        s.call(x -> x.set(0, v));
        s.call(x -> x.set(11, v));
        s.call(x -> x.set(1, v));
        s.call(x -> x.set(5, v));
        for (int r = 0; r < Script.REGISTERS; r++) {
            s.holds(r, r == 2 ? -1 : r == 0 || r == 1 || r == 5 || r == 11 ? v : 0);
        }
    }

    static void promise2SetLeastLong(String name) {
        setOverAllLengths(name, Long.MIN_VALUE);
    }

    static void promise2SetGreatestLong(String name) {
        setOverAllLengths(name, Long.MAX_VALUE);
    }

    static void promise2SetMinus1(String name) {
        setOverAllLengths(name, -1);
    }

    static void promise2Set0(String name) {
        setOverAllLengths(name, 0);
    }

    static void promise2SetAroundOneWord(String name) {
        long[] values = {0x7FFFFFFFL, 0x80000000L, 0xFFFFFFFFL, 0x100000000L, 0x180000000L};
        for (long v : values) {
            setOverAllLengths(name, v);
            setOverAllLengths(name, -v);
        }
    }

    // Promise 3: "the sign stays, 0 becoming positive"

    static void promise3AppendSignOfPositiveStays(String name) {
        Script s = new Script(name);
        s.call(x -> x.set(0, 3));
        s.call(x -> x.append(0, 5));
        s.holds(0, (3L << 32) + 5);
    }

    static void promise3AppendSignOfNegativeStays(String name) {
        Script s = new Script(name);
        s.call(x -> x.set(0, -3));
        s.call(x -> x.append(0, 5));
        s.holds(0, -(3L << 32) - 5);
        s.call(x -> x.append(0, 0));
        s.holds(0, big(-(3L << 32) - 5).shiftLeft(32));
    }

    static void promise3AppendTo0BecomesPositive(String name) {
        Script s = new Script(name);
        s.call(x -> x.append(0, 5));
        s.holds(0, 5);
        s.call(x -> x.set(1, -7));
        s.call(x -> x.subtract(1, 1, 1));
        s.call(x -> x.append(1, 5));
        s.holds(1, 5);
        s.call(x -> x.set(2, -7));
        s.call(x -> x.set(2, 0));
        s.call(x -> x.append(2, -1));
        s.holds(2, 0xFFFFFFFFL);
        s.call(x -> x.negate(3));
        s.call(x -> x.append(3, 5));
        s.holds(3, 5);
        s.call(x -> x.set(4, -7));
        s.call(x -> x.multiply(4, 4, 5));
        s.call(x -> x.append(4, 5));
        s.holds(4, 5);
    }

    static void promise3Append0To0Stays0(String name) {
        Script s = new Script(name);
        for (int time = 0; time < 3; time++) {
            s.call(x -> x.append(11, 0));
            s.holds(11, 0);
        }
        s.call(x -> x.append(11, 1));
        s.holds(11, 1);
    }

    // Promise 3: "w (as a number of 0 .. 2^32 - 1)"

    static void promise3AppendWordIsNeverBelow0(String name) {
        int[] words = {0, 1, Integer.MAX_VALUE, Integer.MIN_VALUE, -1};
        for (int sign = -1; sign <= 1; sign++) {
            for (int w : words) {
                Script s = new Script(name);
                int signOf0 = sign;
                s.call(x -> x.set(0, signOf0));
                s.call(x -> x.append(0, w));
                long number = w < 0 ? w + (1L << 32) : w;
                s.holds(0, sign < 0 ? -(1L << 32) - number : sign * (1L << 32) + number);
            }
        }
    }

    // Promise 3: "IllegalStateException: it is too long."

    private static Script appended(String name, boolean less1, int sign) {
        Script s = new Script(name);
        if (less1) {
            s.loadPowerLess1(0, 16352, 1);
        } else {
            s.loadPower(0, 16352);
        }
        s.call(x -> x.set(1, sign));
        s.call(x -> x.multiply(0, 0, 1));
        return s;
    }

    static void promise3AppendGreatestSizeIsNotTooLong(String name) {
        for (int sign = 1; sign >= -1; sign -= 2) {
            Script s = appended(name, true, sign);
            s.call(x -> x.append(0, -1));
            s.holds(0, GREATEST.multiply(big(sign)));
            s.refused(TOO_LONG, x -> x.append(0, 0));
            s.refused(TOO_LONG, x -> x.append(0, -1));
        }
    }

    static void promise3AppendLeastSizeIsTooLong(String name) {
        for (int sign = 1; sign >= -1; sign -= 2) {
            Script s = appended(name, false, sign);
            s.refused(TOO_LONG, x -> x.append(0, 0));
            s.refused(TOO_LONG, x -> x.append(0, 1));
            s.refused(TOO_LONG, x -> x.append(0, -1));
            s.holds(0, Script.power(16352).multiply(big(sign)));
        }
    }

    // Promise 4: "with the other sign"

    static void promise4NegatePositiveAndNegative(String name) {
        Script s = new Script(name);
        s.call(x -> x.set(0, 5));
        s.call(x -> x.negate(0));
        s.holds(0, -5);
        s.call(x -> x.negate(0));
        s.holds(0, 5);
        s.holds(1, 0);
    }

    static void promise4Negate0Stays0(String name) {
        Script s = new Script(name);
        s.call(x -> x.negate(0));
        s.holds(0, 0);
        s.answers(0, x -> x.sign(0));
        s.answers(0, x -> x.compare(0, 1));
        s.answers(0, x -> x.compare(1, 0));
        s.call(x -> x.root(2, 0));
        s.holds(2, 0);
        s.refused(WRONG_ARGUMENT, x -> x.divide(2, 3, 1, 0));
    }

    static void promise4NegateGreatestAndLeast(String name) {
        Script s = full(name);
        s.call(x -> x.negate(0));
        s.call(x -> x.negate(11));
        s.holds(0, GREATEST.negate());
        s.holds(11, GREATEST);
    }

    static void promise4NegateLeastLong(String name) {
        Script s = new Script(name);
        s.call(x -> x.set(0, Long.MIN_VALUE));
        s.call(x -> x.negate(0));
        s.holds(0, Script.power(63));
    }

    // Promise 6: "IllegalStateException: it is too long."

    static void promise6AddGreatestSizeIsNotTooLong(String name) {
        Script s = full(name);
        s.call(x -> x.add(3, 0, 2));
        s.holds(3, GREATEST.subtract(BigInteger.ONE));
        s.call(x -> x.add(3, 3, 1));
        s.holds(3, GREATEST);
        s.call(x -> x.add(4, 11, 1));
        s.call(x -> x.add(4, 2, 4));
        s.holds(4, GREATEST.negate());
        s.call(x -> x.add(5, 0, 9));
        s.holds(5, GREATEST);
        s.call(x -> x.add(5, 9, 11));
        s.holds(5, GREATEST.negate());
        s.call(x -> x.add(5, 0, 11));
        s.holds(5, 0);
    }

    static void promise6AddTwoHalvesAroundTheLimit(String name) {
        Script s = new Script(name);
        s.loadPower(0, 16383);
        s.loadPowerLess1(1, 16383, 2);
        s.call(x -> x.add(3, 0, 1));
        s.holds(3, GREATEST);
        s.refused(TOO_LONG, x -> x.add(3, 0, 0));
        s.call(x -> x.negate(0));
        s.call(x -> x.negate(1));
        s.call(x -> x.add(3, 1, 0));
        s.holds(3, GREATEST.negate());
        s.refused(TOO_LONG, x -> x.add(3, 0, 0));
    }

    static void promise6AddLeastSizeIsTooLong(String name) {
        Script s = full(name);
        int[] targets = {0, 1, 2, 5, 11};
        for (int r : targets) {
            s.refused(TOO_LONG, x -> x.add(r, 0, 1));
            s.refused(TOO_LONG, x -> x.add(r, 1, 0));
            s.refused(TOO_LONG, x -> x.add(r, 11, 2));
            s.refused(TOO_LONG, x -> x.add(r, 2, 11));
        }
    }

    static void promise6AddGreatestTwiceIsTooLong(String name) {
        Script s = full(name);
        s.refused(TOO_LONG, x -> x.add(0, 0, 0));
        s.refused(TOO_LONG, x -> x.add(11, 11, 11));
        s.refused(TOO_LONG, x -> x.add(5, 0, 0));
    }

    // Promise 7: "IllegalStateException: it is too long."

    static void promise7SubtractGreatestSizeIsNotTooLong(String name) {
        Script s = full(name);
        s.call(x -> x.subtract(3, 0, 1));
        s.holds(3, GREATEST.subtract(BigInteger.ONE));
        s.call(x -> x.subtract(3, 3, 2));
        s.holds(3, GREATEST);
        s.call(x -> x.subtract(4, 11, 2));
        s.call(x -> x.subtract(4, 4, 1));
        s.holds(4, GREATEST.negate());
        s.call(x -> x.subtract(5, 9, 0));
        s.holds(5, GREATEST.negate());
        s.call(x -> x.subtract(5, 9, 11));
        s.holds(5, GREATEST);
        s.call(x -> x.subtract(5, 0, 9));
        s.holds(5, GREATEST);
        s.call(x -> x.subtract(5, 11, 11));
        s.holds(5, 0);
    }

    static void promise7SubtractTwoHalvesAroundTheLimit(String name) {
        Script s = new Script(name);
        s.loadPower(0, 16383);
        s.loadPowerLess1(1, 16383, 2);
        s.call(x -> x.negate(1));
        s.call(x -> x.subtract(3, 0, 1));
        s.holds(3, GREATEST);
        s.call(x -> x.subtract(3, 1, 0));
        s.holds(3, GREATEST.negate());
        s.call(x -> x.copy(4, 0));
        s.call(x -> x.negate(4));
        s.refused(TOO_LONG, x -> x.subtract(3, 0, 4));
        s.refused(TOO_LONG, x -> x.subtract(3, 4, 0));
    }

    static void promise7SubtractLeastSizeIsTooLong(String name) {
        Script s = full(name);
        int[] targets = {0, 1, 2, 5, 11};
        for (int r : targets) {
            s.refused(TOO_LONG, x -> x.subtract(r, 0, 2));
            s.refused(TOO_LONG, x -> x.subtract(r, 2, 0));
            s.refused(TOO_LONG, x -> x.subtract(r, 11, 1));
            s.refused(TOO_LONG, x -> x.subtract(r, 1, 11));
        }
    }

    static void promise7SubtractLeastFromGreatestIsTooLong(String name) {
        Script s = full(name);
        s.refused(TOO_LONG, x -> x.subtract(0, 0, 11));
        s.refused(TOO_LONG, x -> x.subtract(11, 11, 0));
        s.refused(TOO_LONG, x -> x.subtract(5, 0, 11));
    }

    // Promise 8: "IllegalStateException: it is too long."

    static void promise8MultiplyGreatestSizeIsNotTooLong(String name) {
        Script s = new Script(name);
        // 2^8192 - 1 and 2^8192 + 1
        s.loadPowerLess1(0, 8192, 2);
        s.call(x -> x.add(1, 0, 2));
        s.call(x -> x.add(1, 1, 2));
        s.call(x -> x.multiply(3, 0, 1));
        s.holds(3, GREATEST);
        s.call(x -> x.negate(1));
        s.call(x -> x.multiply(3, 0, 1));
        s.holds(3, GREATEST.negate());
        s.call(x -> x.multiply(3, 1, 0));
        s.holds(3, GREATEST.negate());
        s.call(x -> x.negate(0));
        s.call(x -> x.multiply(0, 1, 0));
        s.holds(0, GREATEST);
    }

    static void promise8MultiplyGreatestBy1Minus1And0IsNotTooLong(String name) {
        Script s = full(name);
        s.call(x -> x.multiply(3, 0, 1));
        s.holds(3, GREATEST);
        s.call(x -> x.multiply(3, 2, 0));
        s.holds(3, GREATEST.negate());
        s.call(x -> x.multiply(3, 11, 2));
        s.holds(3, GREATEST);
        s.call(x -> x.multiply(3, 11, 9));
        s.holds(3, 0);
        s.call(x -> x.multiply(0, 9, 0));
        s.holds(0, 0);
    }

    static void promise8MultiplyPowersOfTwoAroundTheLimit(String name) {
        int[] bits = {1, 31, 32, 33, 8191, 8192};
        for (int bit : bits) {
            for (int sign = 1; sign >= -1; sign -= 2) {
                int signOf2 = sign;
                Script s = new Script(name + ", 2^" + bit);
                s.loadPower(0, bit);
                s.loadPower(1, 16383 - bit);
                s.call(x -> x.set(2, signOf2));
                s.call(x -> x.multiply(1, 1, 2));
                s.call(x -> x.multiply(3, 0, 1));
                s.holds(3, Script.power(16383).multiply(big(sign)));
                s.call(x -> x.add(1, 1, 1));
                s.refused(TOO_LONG, x -> x.multiply(3, 0, 1));
                s.refused(TOO_LONG, x -> x.multiply(3, 1, 0));
                s.refused(TOO_LONG, x -> x.multiply(0, 0, 1));
                s.refused(TOO_LONG, x -> x.multiply(1, 0, 1));
            }
        }
    }

    static void promise8MultiplyBy3AroundTheLimit(String name) {
        Script s = full(name);
        s.call(x -> x.set(3, 3));
        // 2^16384 - 1 is a multiple of 3, so that the next multiple is 2^16384 + 2.
        s.call(x -> x.divide(4, 5, 0, 3));
        s.call(x -> x.multiply(6, 4, 3));
        s.holds(6, GREATEST);
        s.call(x -> x.add(4, 4, 1));
        s.refused(TOO_LONG, x -> x.multiply(6, 4, 3));
        s.refused(TOO_LONG, x -> x.multiply(6, 3, 4));
        s.call(x -> x.negate(4));
        s.refused(TOO_LONG, x -> x.multiply(6, 4, 3));
    }

    static void promise8MultiplyGreatestByItselfIsTooLong(String name) {
        Script s = full(name);
        s.refused(TOO_LONG, x -> x.multiply(0, 0, 0));
        s.refused(TOO_LONG, x -> x.multiply(5, 0, 11));
        s.refused(TOO_LONG, x -> x.multiply(11, 11, 11));
        s.call(x -> x.add(2, 1, 1));
        s.refused(TOO_LONG, x -> x.multiply(5, 0, 2));
        s.refused(TOO_LONG, x -> x.multiply(5, 2, 11));
    }

    static void promise8MultiplyWhereTheWordTooManyHasItsTopBitSet(String name) {
        Script s = full(name);
        s.call(x -> x.set(3, 0xFFFFFFFFL));
        s.refused(TOO_LONG, x -> x.multiply(5, 0, 3));
        s.refused(TOO_LONG, x -> x.multiply(3, 3, 11));
    }

    // Promise 9: "(towards 0)"

    private static void dividedSmall(String name, long a, long b, long quotient, long rest) {
        Script s = new Script(name + " " + a + " " + b);
        s.call(x -> x.set(0, a));
        s.call(x -> x.set(1, b));
        s.call(x -> x.divide(2, 3, 0, 1));
        s.holds(0, a);
        s.holds(1, b);
        s.holds(2, quotient);
        s.holds(3, rest);
    }

    static void promise9DivideTowards0ForAllSigns(String name) {
        dividedSmall(name, 7, 2, 3, 1);
        dividedSmall(name, -7, 2, -3, -1);
        dividedSmall(name, 7, -2, -3, 1);
        dividedSmall(name, -7, -2, 3, -1);
        dividedSmall(name, 6000000000000000001L, 3000000000L, 2000000000, 1);
        dividedSmall(name, -6000000000000000001L, 3000000000L, -2000000000, -1);
        dividedSmall(name, 6000000000000000001L, -3000000000L, -2000000000, 1);
        dividedSmall(name, -6000000000000000001L, -3000000000L, 2000000000, -1);
    }

    static void promise9DivideSmallerByGreaterIs0(String name) {
        dividedSmall(name, 1, 2, 0, 1);
        dividedSmall(name, -1, 2, 0, -1);
        dividedSmall(name, 1, -2, 0, 1);
        dividedSmall(name, -1, -2, 0, -1);
        dividedSmall(name, Long.MAX_VALUE, Long.MIN_VALUE, 0, Long.MAX_VALUE);
        dividedSmall(name, 0, 5, 0, 0);
        dividedSmall(name, 0, -5, 0, 0);
    }

    static void promise9DivideMultiplesHaveNoRest(String name) {
        dividedSmall(name, 6, 3, 2, 0);
        dividedSmall(name, -6, 3, -2, 0);
        dividedSmall(name, 6, -3, -2, 0);
        dividedSmall(name, -6, -3, 2, 0);
        dividedSmall(name, Long.MIN_VALUE, Long.MIN_VALUE, 1, 0);
        dividedSmall(name, Long.MIN_VALUE, 1, Long.MIN_VALUE, 0);
    }

    static void promise9DivideLeastLongByMinus1(String name) {
        Script s = new Script(name);
        s.call(x -> x.set(0, Long.MIN_VALUE));
        s.call(x -> x.set(1, -1));
        s.call(x -> x.divide(0, 1, 0, 1));
        s.holds(0, Script.power(63));
        s.holds(1, 0);
    }

    static void promise9DivideTowards0AtFullLength(String name) {
        Script s = full(name);
        s.loadPower(3, 16383);
        BigInteger rest = Script.power(16383).subtract(BigInteger.ONE);
        s.call(x -> x.divide(4, 5, 0, 3));
        s.holds(4, 1);
        s.holds(5, rest);
        s.call(x -> x.divide(4, 5, 11, 3));
        s.holds(4, -1);
        s.holds(5, rest.negate());
        s.call(x -> x.divide(4, 5, 3, 11));
        s.holds(4, 0);
        s.holds(5, Script.power(16383));
        s.call(x -> x.divide(4, 5, 0, 2));
        s.holds(4, GREATEST.negate());
        s.holds(5, 0);
        s.call(x -> x.divide(4, 5, 2, 0));
        s.holds(4, 0);
        s.holds(5, -1);
        s.call(x -> x.divide(11, 0, 0, 11));
        s.holds(11, -1);
        s.holds(0, 0);
    }

    // Promise 9: "IllegalArgumentException: q is rest, or b holds 0."

    private static Script beforeDivide(String name) {
        Script s = full(name);
        s.call(x -> x.set(3, 100));
        s.call(x -> x.set(4, -7));
        return s;
    }

    static void promise9DivideRefusesQuotientIsRest(String name) {
        Script s = beforeDivide(name);
        s.refused(WRONG_ARGUMENT, x -> x.divide(5, 5, 3, 4));
        s.refused(WRONG_ARGUMENT, x -> x.divide(3, 3, 3, 4));
        s.refused(WRONG_ARGUMENT, x -> x.divide(4, 4, 3, 4));
        s.refused(WRONG_ARGUMENT, x -> x.divide(0, 0, 0, 4));
        s.refused(WRONG_ARGUMENT, x -> x.divide(0, 0, 0, 0));
        s.refused(WRONG_ARGUMENT, x -> x.divide(11, 11, 6, 1));
    }

    static void promise9DivideRefusesDivisor0(String name) {
        Script s = beforeDivide(name);
        s.refused(WRONG_ARGUMENT, x -> x.divide(5, 6, 3, 7));
        s.refused(WRONG_ARGUMENT, x -> x.divide(3, 7, 3, 7));
        s.refused(WRONG_ARGUMENT, x -> x.divide(7, 3, 3, 7));
        s.refused(WRONG_ARGUMENT, x -> x.divide(0, 11, 0, 7));
        s.refused(WRONG_ARGUMENT, x -> x.divide(0, 11, 11, 7));
    }

    static void promise9DivideRefuses0By0(String name) {
        Script s = beforeDivide(name);
        s.refused(WRONG_ARGUMENT, x -> x.divide(3, 4, 7, 8));
        s.refused(WRONG_ARGUMENT, x -> x.divide(3, 4, 7, 7));
    }

    static void promise9DivideRefusesQuotientIsRestAndDivisor0(String name) {
        Script s = beforeDivide(name);
        s.refused(WRONG_ARGUMENT, x -> x.divide(3, 3, 3, 7));
        s.refused(WRONG_ARGUMENT, x -> x.divide(7, 7, 7, 7));
    }

    static void promise9DivideRefusesA0ThatWasMadeByCalls(String name) {
        Script s = beforeDivide(name);
        s.call(x -> x.subtract(5, 0, 0));
        s.refused(WRONG_ARGUMENT, x -> x.divide(6, 7, 3, 5));
        s.call(x -> x.add(5, 0, 11));
        s.refused(WRONG_ARGUMENT, x -> x.divide(6, 7, 3, 5));
        s.call(x -> x.multiply(5, 0, 9));
        s.refused(WRONG_ARGUMENT, x -> x.divide(6, 7, 3, 5));
        s.call(x -> x.divide(6, 5, 11, 0));
        s.refused(WRONG_ARGUMENT, x -> x.divide(7, 8, 3, 5));
    }

    // Promise 10: "the greatest number whose square isn't above what a holds"

    private static void rootOf(String name, BigInteger a, BigInteger due) {
        Script s = new Script(name + " " + a);
        s.load(0, a);
        s.call(x -> x.root(1, 0));
        s.holds(0, a);
        s.holds(1, due);
    }

    static void promise10RootOf0To10(String name) {
        int[] due = {0, 1, 1, 1, 2, 2, 2, 2, 2, 3, 3};
        for (int a = 0; a < due.length; a++) {
            rootOf(name, big(a), big(due[a]));
        }
    }

    static void promise10RootAroundSquares(String name) {
        BigInteger[] roots = {big(2), big(65535), big(65536), big(0x7FFFFFFFL), big(0x80000000L),
            big(0xB504F333L), big(0xFFFFFFFFL), big(0x100000000L), Script.power(48),
            Script.power(64).subtract(BigInteger.ONE), Script.power(64), Script.power(200),
            Script.power(255).subtract(BigInteger.ONE)};
        for (BigInteger root : roots) {
            BigInteger square = root.multiply(root);
            rootOf(name, square.subtract(BigInteger.ONE), root.subtract(BigInteger.ONE));
            rootOf(name, square, root);
            rootOf(name, square.add(BigInteger.ONE), root);
            rootOf(name, square.add(root).add(root), root);
            rootOf(name, square.add(root).add(root).add(BigInteger.ONE), root.add(BigInteger.ONE));
        }
    }

    static void promise10RootAtFullLength(String name) {
        BigInteger greatestRoot = Script.power(8192).subtract(BigInteger.ONE);
        Script s = full(name);
        s.call(x -> x.root(3, 0));
        s.holds(3, greatestRoot);
        s.call(x -> x.multiply(4, 3, 3));
        s.call(x -> x.root(5, 4));
        s.holds(5, greatestRoot);
        s.call(x -> x.subtract(4, 4, 1));
        s.call(x -> x.root(5, 4));
        s.holds(5, greatestRoot.subtract(BigInteger.ONE));
        s.loadPower(6, 16382);
        s.call(x -> x.root(7, 6));
        s.holds(7, Script.power(8191));
        s.call(x -> x.subtract(6, 6, 1));
        s.call(x -> x.root(6, 6));
        s.holds(6, Script.power(8191).subtract(BigInteger.ONE));
        s.call(x -> x.root(0, 0));
        s.holds(0, greatestRoot);
    }

    // Promise 10: "IllegalArgumentException: that is below 0."

    static void promise10RootRefusesWhatIsBelow0(String name) {
        Script s = full(name);
        s.call(x -> x.set(3, -4));
        s.call(x -> x.set(4, Long.MIN_VALUE));
        int[] below = {2, 3, 4, 11};
        for (int a : below) {
            s.refused(WRONG_ARGUMENT, x -> x.root(a, a));
            s.refused(WRONG_ARGUMENT, x -> x.root(0, a));
            s.refused(WRONG_ARGUMENT, x -> x.root(9, a));
        }
    }

    static void promise10RootOf0IsNotRefused(String name) {
        Script s = full(name);
        s.call(x -> x.add(3, 0, 11));
        s.call(x -> x.negate(3));
        s.call(x -> x.root(0, 3));
        s.holds(0, 0);
    }

    // Promises 11, 12, 13: "-1 (below), 0, 1"

    /** Numbers from the least to the greatest, in the registers 0 .. 11. */
    private static Script rising(String name) {
        Script s = new Script(name);
        s.loadGreatest(11, 0);
        s.call(x -> x.copy(0, 11));
        s.call(x -> x.negate(0));
        s.call(x -> x.set(1, Long.MIN_VALUE));
        s.call(x -> x.set(2, -0x80000000L));
        s.call(x -> x.set(3, -0x7FFFFFFFL));
        s.call(x -> x.set(4, -1));
        s.call(x -> x.set(6, 1));
        s.call(x -> x.set(7, 0x7FFFFFFFL));
        s.call(x -> x.set(8, 0x80000000L));
        s.call(x -> x.set(9, Long.MAX_VALUE));
        s.call(x -> x.subtract(10, 11, 6));
        return s;
    }

    static void promise11CompareBelowSameAndAbove(String name) {
        Script s = rising(name);
        for (int a = 0; a < Script.REGISTERS; a++) {
            for (int b = 0; b < Script.REGISTERS; b++) {
                int first = a;
                int second = b;
                s.answers(Integer.compare(a, b), x -> x.compare(first, second));
            }
        }
    }

    static void promise11CompareNumbersThatDifferInOneWordAlone(String name) {
        Script s = new Script(name);
        s.loadPower(0, 16383);
        s.call(x -> x.set(1, 1));
        s.call(x -> x.add(2, 0, 1));
        s.answers(-1, x -> x.compare(0, 2));
        s.answers(1, x -> x.compare(2, 0));
        s.call(x -> x.negate(0));
        s.call(x -> x.negate(2));
        s.answers(1, x -> x.compare(0, 2));
        s.answers(-1, x -> x.compare(2, 0));
        s.call(x -> x.copy(3, 2));
        s.answers(0, x -> x.compare(2, 3));
    }

    static void promise12CompareSizesBelowSameAndAbove(String name) {
        Script s = rising(name);
        for (int a = 0; a < Script.REGISTERS; a++) {
            for (int b = 0; b < Script.REGISTERS; b++) {
                int first = a;
                int second = b;
                int due = Integer.compare(SIZE_PLACES[a], SIZE_PLACES[b]);
                s.answers(due, x -> x.compareSizes(first, second));
            }
        }
    }

    static void promise12CompareSizesHasNoLookAtSigns(String name) {
        Script s = new Script(name);
        s.call(x -> x.set(0, -5));
        s.call(x -> x.set(1, 5));
        s.call(x -> x.set(2, 4));
        s.answers(0, x -> x.compareSizes(0, 1));
        s.answers(1, x -> x.compareSizes(0, 2));
        s.answers(-1, x -> x.compareSizes(2, 0));
        s.answers(-1, x -> x.compareSizes(3, 0));
        s.answers(1, x -> x.compareSizes(0, 3));
    }

    static void promise13SignBelow0And0AndAbove0(String name) {
        Script s = rising(name);
        for (int a = 0; a < Script.REGISTERS; a++) {
            int register = a;
            s.answers(Integer.compare(a, 5), x -> x.sign(register));
        }
    }

    static void promise13SignOf0ThatWasMadeByCalls(String name) {
        Script s = full(name);
        s.call(x -> x.subtract(3, 11, 11));
        s.call(x -> x.add(4, 11, 0));
        s.call(x -> x.multiply(5, 9, 11));
        s.call(x -> x.divide(6, 7, 2, 11));
        s.call(x -> x.divide(7, 8, 11, 1));
        s.call(x -> x.negate(9));
        s.call(x -> x.root(10, 9));
        int[] zeros = {3, 4, 5, 6, 8, 9, 10};
        for (int a : zeros) {
            s.answers(0, x -> x.sign(a));
        }
    }

    // Promise 14: "without zeros ahead: 0 for 0"

    static void promise14BitsOf0(String name) {
        Script s = full(name);
        s.answers(0, x -> x.bits(5));
        s.call(x -> x.negate(5));
        s.answers(0, x -> x.bits(5));
        s.call(x -> x.append(5, 0));
        s.answers(0, x -> x.bits(5));
        s.call(x -> x.subtract(0, 0, 0));
        s.answers(0, x -> x.bits(0));
    }

    static void promise14BitsAroundEachPowerOfTwo(String name) {
        for (int bit = 0; bit <= 62; bit++) {
            Script s = new Script(name + " " + bit);
            long power = 1L << bit;
            int due = bit + 1;
            s.call(x -> x.set(0, power));
            s.answers(due, x -> x.bits(0));
            s.call(x -> x.set(0, -power));
            s.answers(due, x -> x.bits(0));
            s.call(x -> x.set(0, power - 1));
            s.answers(due - 1, x -> x.bits(0));
            s.call(x -> x.set(0, 1 - power));
            s.answers(due - 1, x -> x.bits(0));
        }
    }

    static void promise14BitsOfLeastLong(String name) {
        Script s = new Script(name);
        s.call(x -> x.set(0, Long.MIN_VALUE));
        s.answers(64, x -> x.bits(0));
        s.call(x -> x.set(0, Long.MAX_VALUE));
        s.answers(63, x -> x.bits(0));
    }

    static void promise14BitsAtFullLength(String name) {
        Script s = full(name);
        s.answers(16384, x -> x.bits(0));
        s.answers(16384, x -> x.bits(11));
        s.loadPower(3, 16383);
        s.answers(16384, x -> x.bits(3));
        s.call(x -> x.subtract(3, 3, 1));
        s.answers(16383, x -> x.bits(3));
    }

    static void promise14BitsHaveNoZerosAheadWhenANumberShrinks(String name) {
        Script s = full(name);
        s.call(x -> x.subtract(3, 0, 1));
        s.call(x -> x.subtract(3, 0, 3));
        s.answers(1, x -> x.bits(3));
        s.call(x -> x.divide(4, 5, 11, 0));
        s.answers(1, x -> x.bits(4));
        s.answers(0, x -> x.bits(5));
        s.call(x -> x.root(6, 0));
        s.answers(8192, x -> x.bits(6));
        s.call(x -> x.set(0, 6));
        s.answers(3, x -> x.bits(0));
        s.call(x -> x.copy(11, 0));
        s.answers(3, x -> x.bits(11));
        s.holds(11, 6);
    }

    // Promise 15: "IndexOutOfBoundsException: also if k isn't 0 .. 511."

    static void promise15WordRefusesWhatIsNot0To511(String name) {
        Script s = full(name);
        int[] wrong = {-1, 512, 513, Integer.MIN_VALUE, Integer.MAX_VALUE};
        int[] registers = {0, 5, 11};
        for (int k : wrong) {
            for (int a : registers) {
                s.refused(NO_WORD, x -> x.word(a, k));
            }
            s.refused(NO_WORD, x -> x.word(12, k));
            s.refused(NO_WORD, x -> x.word(-1, k));
        }
    }

    static void promise15WordTakesAll0To511(String name) {
        Script s = new Script(name);
        s.loadPower(0, 16383);
        s.call(x -> x.negate(0));
        for (int k = 0; k < 512; k += 7) {
            int at = k;
            s.answers(k == 511 ? Integer.MIN_VALUE : 0, x -> x.word(0, at));
            s.answers(0, x -> x.word(1, at));
        }
        s.answers(0, x -> x.word(0, 0));
        s.answers(0, x -> x.word(0, 510));
        s.answers(Integer.MIN_VALUE, x -> x.word(0, 511));
        s.answers(0, x -> x.word(11, 511));
    }

    static void promise15WordIsOfTheSize(String name) {
        Script s = full(name);
        s.answers(-1, x -> x.word(11, 0));
        s.answers(-1, x -> x.word(11, 511));
        s.call(x -> x.set(3, -1));
        s.answers(1, x -> x.word(3, 0));
        s.answers(0, x -> x.word(3, 1));
        s.call(x -> x.set(3, Long.MIN_VALUE));
        s.answers(0, x -> x.word(3, 0));
        s.answers(Integer.MIN_VALUE, x -> x.word(3, 1));
        s.answers(0, x -> x.word(3, 2));
    }

    // Promise 16: "The number 0 .. m - 1 that is less than what a holds by a multiple of m."

    static void promise16ResidueOfNumbersBelow0IsNot(String name) {
        Script s = new Script(name);
        s.call(x -> x.set(0, -1));
        s.answers(6, x -> x.residue(0, 7));
        s.call(x -> x.set(0, -6));
        s.answers(1, x -> x.residue(0, 7));
        s.call(x -> x.set(0, -8));
        s.answers(6, x -> x.residue(0, 7));
        s.call(x -> x.set(0, 8));
        s.answers(1, x -> x.residue(0, 7));
        s.call(x -> x.set(0, 6));
        s.answers(6, x -> x.residue(0, 7));
    }

    static void promise16ResidueOfMultiplesIs0(String name) {
        Script s = new Script(name);
        long[] multiples = {0, 7, -7, 14, -14, 7L << 40, -(7L << 40)};
        for (long v : multiples) {
            s.call(x -> x.set(0, v));
            s.answers(0, x -> x.residue(0, 7));
        }
    }

    static void promise16ResidueForTheLeastModulus(String name) {
        Script s = full(name);
        int[] registers = {0, 1, 2, 5, 11};
        for (int a : registers) {
            s.answers(0, x -> x.residue(a, 1));
        }
    }

    static void promise16ResidueForTheGreatestModulus(String name) {
        int m = Integer.MAX_VALUE;
        Script s = new Script(name);
        s.call(x -> x.set(0, m));
        s.answers(0, x -> x.residue(0, m));
        s.call(x -> x.set(0, -m));
        s.answers(0, x -> x.residue(0, m));
        s.call(x -> x.set(0, m - 1));
        s.answers(m - 1, x -> x.residue(0, m));
        s.call(x -> x.set(0, 1L - m));
        s.answers(1, x -> x.residue(0, m));
        s.call(x -> x.set(0, -1));
        s.answers(m - 1, x -> x.residue(0, m));
        s.call(x -> x.set(0, -m - 1L));
        s.answers(m - 1, x -> x.residue(0, m));
        // 2^31 leaves 1, so that 2^62 leaves 1 and 2^63 leaves 2.
        s.call(x -> x.set(0, Long.MIN_VALUE));
        s.answers(m - 2, x -> x.residue(0, m));
    }

    static void promise16ResidueAtFullLength(String name) {
        Script s = full(name);
        int[] moduli = {2, 3, 5, 10, 65537, 1 << 30, Integer.MAX_VALUE};
        for (int m : moduli) {
            s.answers(GREATEST.mod(big(m)).intValue(), x -> x.residue(0, m));
            s.answers(GREATEST.negate().mod(big(m)).intValue(), x -> x.residue(11, m));
        }
    }

    // Promise 16: "IllegalArgumentException: m is below 1."

    static void promise16ResidueRefusesModulusBelow1(String name) {
        Script s = full(name);
        int[] registers = {0, 1, 2, 5, 11};
        int[] wrong = {0, -1, -7, Integer.MIN_VALUE};
        for (int a : registers) {
            for (int m : wrong) {
                s.refused(WRONG_ARGUMENT, x -> x.residue(a, m));
            }
        }
    }
}
