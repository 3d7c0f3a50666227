import java.math.BigInteger;
import java.util.function.BinaryOperator;

/** A test for each sentence of the document's section 'Terms' that names a boundary case. */
public final class TermsBoundaryTest {
    private static final Class<? extends RuntimeException> NO_REGISTER =
            IndexOutOfBoundsException.class;
    private static final Class<? extends RuntimeException> TOO_LONG = IllegalStateException.class;
    private static final int[] WRONG = {-1, 12, Integer.MIN_VALUE, Integer.MAX_VALUE};

    /** Numbers of three words, two words and one, so that what is read too late comes out wrong. */
    private static final BigInteger[] SEVERAL = {
        new BigInteger("-fedcba9876543210f0e1d2c3", 16),
        new BigInteger("1000000000000001", 16),
        new BigInteger("-7fffffff", 16),
        new BigInteger("3", 16),
    };

    private TermsBoundaryTest() {
    }

    public static void main(String[] args) throws IllegalAccessException {
        NamedTests.run(TermsBoundaryTest.class);
    }

    /** What a refused call could change: numbers of all lengths and signs, and 0. */
    private static Script filled(String name) {
        Script s = new Script(name);
        s.loadGreatest(0, 1);
        s.call(x -> x.set(2, 5));
        s.call(x -> x.set(3, -5));
        s.call(x -> x.set(5, Long.MIN_VALUE));
        s.loadPower(6, 8192);
        s.call(x -> x.set(10, 1L << 40));
        s.call(x -> x.copy(11, 0));
        s.call(x -> x.negate(11));
        return s;
    }

    // "REGISTERS 0 .. 11 hold NUMBERS, at first 0."

    static void termsRegistersHold0AtFirst(String name) {
        Script s = new Script(name);
        for (int r = 0; r < Script.REGISTERS; r++) {
            s.holds(r, 0);
        }
    }

    static void termsThereAreTwelveRegistersEachWithItsOwnNumber(String name) {
        Script s = new Script(name);
        for (int r = 0; r < Script.REGISTERS; r++) {
            int register = r;
            s.call(x -> x.set(register, 1000L - 300 * register));
        }
        for (int r = 0; r < Script.REGISTERS; r++) {
            s.holds(r, 1000L - 300 * r);
        }
        s.refused(NO_REGISTER, x -> x.set(-1, 7));
        s.refused(NO_REGISTER, x -> x.set(12, 7));
    }

    // "A number is TOO LONG if its size is 2^16384 or more."

    static void termsSizeOf2To16384Less1IsNotTooLong(String name) {
        Script s = new Script(name);
        s.loadGreatest(0, 1);
        s.holds(0, Script.GREATEST);
        s.call(x -> x.negate(0));
        s.holds(0, Script.GREATEST.negate());
        s.call(x -> x.copy(11, 0));
        s.holds(11, Script.GREATEST.negate());
    }

    static void termsSizeOf2To16384IsTooLongForEachCallThatMakesIt(String name) {
        for (int sign = 1; sign >= -1; sign -= 2) {
            Script s = new Script(name);
            s.loadPower(0, 8192);
            s.loadPower(1, 16352);
            s.loadPower(2, 16383);
            int signOf4 = sign;
            s.call(x -> x.set(4, signOf4));
            for (int r = 0; r < 3; r++) {
                int register = r;
                s.call(x -> x.multiply(register, register, 4));
            }
            s.call(x -> x.copy(3, 2));
            s.call(x -> x.negate(3));
            s.refused(TOO_LONG, x -> x.append(1, 0));
            s.refused(TOO_LONG, x -> x.add(5, 2, 2));
            s.refused(TOO_LONG, x -> x.subtract(5, 2, 3));
            s.refused(TOO_LONG, x -> x.multiply(5, 0, 0));
        }
    }

    // "In all calls registers may be the same (but for what is said of divide); what they hold is
    // read before anything is put there."

    private interface Call {
        void on(WholeRegisters x, int r, int a, int b);
    }

    private static Script several(String name) {
        Script s = new Script(name);
        for (int r = 0; r < SEVERAL.length; r++) {
            s.load(r, SEVERAL[r]);
        }
        return s;
    }

    private static void eachChoiceOfThree(String name, Call call, BinaryOperator<BigInteger> due) {
        for (int r = 0; r < 3; r++) {
            for (int a = 0; a < 3; a++) {
                for (int b = 0; b < 3; b++) {
                    Script s = several(name + " " + r + " " + a + " " + b);
                    int toR = r;
                    int ofA = a;
                    int ofB = b;
                    s.call(x -> call.on(x, toR, ofA, ofB));
                    for (int i = 0; i < SEVERAL.length; i++) {
                        s.holds(i, i == r ? due.apply(SEVERAL[a], SEVERAL[b]) : SEVERAL[i]);
                    }
                }
            }
        }
    }

    static void termsSameRegistersInAdd(String name) {
        eachChoiceOfThree(name, WholeRegisters::add, BigInteger::add);
    }

    static void termsSameRegistersInSubtract(String name) {
        eachChoiceOfThree(name, WholeRegisters::subtract, BigInteger::subtract);
    }

    static void termsSameRegistersInMultiply(String name) {
        eachChoiceOfThree(name, WholeRegisters::multiply, BigInteger::multiply);
    }

    static void termsSameRegistersInCopy(String name) {
        for (int r = 0; r < 3; r++) {
            Script s = several(name);
            int register = r;
            s.call(x -> x.copy(register, register));
            for (int i = 0; i < SEVERAL.length; i++) {
                s.holds(i, SEVERAL[i]);
            }
        }
    }

    static void termsSameRegistersInRoot(String name) {
        Script s = several(name);
        s.call(x -> x.root(1, 1));
        s.holds(0, SEVERAL[0]);
        // The square of 2^30 is 2^60, and the number 2^60 + 1.
        s.holds(1, 1L << 30);
        s.holds(2, SEVERAL[2]);
        s.call(x -> x.root(3, 3));
        s.holds(3, 1);
    }

    static void termsSameRegistersInCompareAndCompareSizes(String name) {
        Script s = several(name);
        for (int r = 0; r < 5; r++) {
            int register = r;
            s.answers(0, x -> x.compare(register, register));
            s.answers(0, x -> x.compareSizes(register, register));
        }
    }

    static void termsSameRegistersInDivideButForQuotientAndRest(String name) {
        for (int q = 0; q < 4; q++) {
            for (int rest = 0; rest < 4; rest++) {
                for (int a = 0; a < 4; a++) {
                    for (int b = 0; b < 4; b++) {
                        divideSameRegisters(name, q, rest, a, b);
                    }
                }
            }
        }
    }

    private static void divideSameRegisters(String name, int q, int rest, int a, int b) {
        Script s = several(name + " " + q + " " + rest + " " + a + " " + b);
        if (q == rest) {
            s.refused(IllegalArgumentException.class, x -> x.divide(q, rest, a, b));
            return;
        }
        s.call(x -> x.divide(q, rest, a, b));
        BigInteger[] due = SEVERAL[a].divideAndRemainder(SEVERAL[b]);
        for (int i = 0; i < SEVERAL.length; i++) {
            s.holds(i, i == q ? due[0] : i == rest ? due[1] : SEVERAL[i]);
        }
    }

    static void termsWhatRegistersHoldIsReadBeforeAnythingIsPutThere(String name) {
        Script s = new Script(name);
        s.call(x -> x.set(0, -100));
        s.call(x -> x.set(1, 7));
        s.call(x -> x.divide(1, 0, 0, 1));
        s.holds(0, -2);
        s.holds(1, -14);
        s.call(x -> x.divide(1, 0, 1, 0));
        s.holds(0, 0);
        s.holds(1, 7);
        s.call(x -> x.subtract(1, 0, 1));
        s.holds(1, -7);
        s.call(x -> x.multiply(1, 1, 1));
        s.holds(1, 49);
        s.call(x -> x.add(1, 1, 1));
        s.holds(1, 98);
        s.call(x -> x.root(1, 1));
        s.holds(1, 9);
    }

    // "Of several exceptions that apply the first one listed is thrown, and nothing changes."

    static void termsFirstListedIsThrownBeforeTooLong(String name) {
        Script s = filled(name);
        for (int wrong : WRONG) {
            s.refused(NO_REGISTER, x -> x.add(wrong, 0, 0));
            s.refused(NO_REGISTER, x -> x.subtract(wrong, 0, 11));
            s.refused(NO_REGISTER, x -> x.multiply(wrong, 0, 0));
            s.refused(NO_REGISTER, x -> x.multiply(wrong, 0, 2));
        }
    }

    static void termsFirstListedIsThrownBeforeQuotientIsRest(String name) {
        Script s = filled(name);
        for (int wrong : WRONG) {
            s.refused(NO_REGISTER, x -> x.divide(wrong, wrong, 0, 2));
            s.refused(NO_REGISTER, x -> x.divide(7, 7, wrong, 2));
            s.refused(NO_REGISTER, x -> x.divide(7, 7, 0, wrong));
        }
    }

    static void termsFirstListedIsThrownBeforeDivisionBy0(String name) {
        Script s = filled(name);
        for (int wrong : WRONG) {
            s.refused(NO_REGISTER, x -> x.divide(wrong, 7, 0, 4));
            s.refused(NO_REGISTER, x -> x.divide(7, wrong, 0, 4));
            s.refused(NO_REGISTER, x -> x.divide(7, 8, wrong, 4));
            s.refused(NO_REGISTER, x -> x.divide(wrong, wrong, wrong, 4));
        }
    }

    static void termsFirstListedIsThrownBeforeRootBelow0(String name) {
        Script s = filled(name);
        for (int wrong : WRONG) {
            s.refused(NO_REGISTER, x -> x.root(wrong, 3));
            s.refused(NO_REGISTER, x -> x.root(wrong, 11));
        }
    }

    static void termsFirstListedIsThrownBeforeModulusBelow1(String name) {
        Script s = filled(name);
        for (int wrong : WRONG) {
            s.refused(NO_REGISTER, x -> x.residue(wrong, 0));
            s.refused(NO_REGISTER, x -> x.residue(wrong, -1));
            s.refused(NO_REGISTER, x -> x.residue(wrong, Integer.MIN_VALUE));
        }
    }

    static void termsRefusedCallsLeaveNothingBehindForLaterCalls(String name) {
        Script s = filled(name);
        s.refused(TOO_LONG, x -> x.add(2, 0, 2));
        s.refused(TOO_LONG, x -> x.multiply(3, 6, 6));
        s.refused(TOO_LONG, x -> x.append(0, 1));
        s.refused(IllegalArgumentException.class, x -> x.divide(2, 3, 0, 4));
        s.refused(IllegalArgumentException.class, x -> x.root(2, 11));
        s.call(x -> x.add(7, 2, 2));
        s.holds(7, 10);
        s.call(x -> x.multiply(7, 2, 3));
        s.holds(7, -25);
        s.call(x -> x.divide(7, 8, 5, 2));
        s.holds(7, Long.MIN_VALUE / 5);
        s.holds(8, Long.MIN_VALUE % 5);
        s.call(x -> x.root(7, 10));
        s.holds(7, 1L << 20);
        s.call(x -> x.append(4, 9));
        s.holds(4, 9);
    }

    // "IndexOutOfBoundsException: there is no such register."

    static void termsNoSuchRegisterInSet(String name) {
        Script s = filled(name);
        for (int wrong : WRONG) {
            s.refused(NO_REGISTER, x -> x.set(wrong, 1));
        }
    }

    static void termsNoSuchRegisterInAppend(String name) {
        Script s = filled(name);
        for (int wrong : WRONG) {
            s.refused(NO_REGISTER, x -> x.append(wrong, 1));
        }
    }

    static void termsNoSuchRegisterInNegate(String name) {
        Script s = filled(name);
        for (int wrong : WRONG) {
            s.refused(NO_REGISTER, x -> x.negate(wrong));
        }
    }

    static void termsNoSuchRegisterInCopy(String name) {
        Script s = filled(name);
        for (int wrong : WRONG) {
            s.refused(NO_REGISTER, x -> x.copy(wrong, 0));
            s.refused(NO_REGISTER, x -> x.copy(0, wrong));
        }
    }

    private static void noSuchRegisterOfThree(String name, Call call) {
        Script s = filled(name);
        for (int wrong : WRONG) {
            s.refused(NO_REGISTER, x -> call.on(x, wrong, 2, 3));
            s.refused(NO_REGISTER, x -> call.on(x, 2, wrong, 3));
            s.refused(NO_REGISTER, x -> call.on(x, 2, 3, wrong));
            // 0 here or there would make an answer of its own without a look at the other.
            s.refused(NO_REGISTER, x -> call.on(x, 2, wrong, 4));
            s.refused(NO_REGISTER, x -> call.on(x, 2, 4, wrong));
        }
    }

    static void termsNoSuchRegisterInAdd(String name) {
        noSuchRegisterOfThree(name, WholeRegisters::add);
    }

    static void termsNoSuchRegisterInSubtract(String name) {
        noSuchRegisterOfThree(name, WholeRegisters::subtract);
    }

    static void termsNoSuchRegisterInMultiply(String name) {
        noSuchRegisterOfThree(name, WholeRegisters::multiply);
    }

    static void termsNoSuchRegisterInDivide(String name) {
        Script s = filled(name);
        for (int wrong : WRONG) {
            s.refused(NO_REGISTER, x -> x.divide(wrong, 2, 0, 3));
            s.refused(NO_REGISTER, x -> x.divide(2, wrong, 0, 3));
            s.refused(NO_REGISTER, x -> x.divide(2, 3, wrong, 5));
            s.refused(NO_REGISTER, x -> x.divide(2, 3, 0, wrong));
        }
    }

    static void termsNoSuchRegisterInRoot(String name) {
        Script s = filled(name);
        for (int wrong : WRONG) {
            s.refused(NO_REGISTER, x -> x.root(wrong, 0));
            s.refused(NO_REGISTER, x -> x.root(wrong, 4));
            s.refused(NO_REGISTER, x -> x.root(2, wrong));
        }
    }

    static void termsNoSuchRegisterInCompare(String name) {
        Script s = filled(name);
        for (int wrong : WRONG) {
            s.refused(NO_REGISTER, x -> x.compare(wrong, 0));
            s.refused(NO_REGISTER, x -> x.compare(0, wrong));
            s.refused(NO_REGISTER, x -> x.compare(wrong, wrong));
        }
    }

    static void termsNoSuchRegisterInCompareSizes(String name) {
        Script s = filled(name);
        for (int wrong : WRONG) {
            s.refused(NO_REGISTER, x -> x.compareSizes(wrong, 0));
            s.refused(NO_REGISTER, x -> x.compareSizes(0, wrong));
            s.refused(NO_REGISTER, x -> x.compareSizes(wrong, wrong));
        }
    }

    static void termsNoSuchRegisterInSign(String name) {
        Script s = filled(name);
        for (int wrong : WRONG) {
            s.refused(NO_REGISTER, x -> x.sign(wrong));
        }
    }

    static void termsNoSuchRegisterInBits(String name) {
        Script s = filled(name);
        for (int wrong : WRONG) {
            s.refused(NO_REGISTER, x -> x.bits(wrong));
        }
    }

    static void termsNoSuchRegisterInWord(String name) {
        Script s = filled(name);
        for (int wrong : WRONG) {
            s.refused(NO_REGISTER, x -> x.word(wrong, 0));
            s.refused(NO_REGISTER, x -> x.word(wrong, 511));
        }
    }

    static void termsNoSuchRegisterInResidue(String name) {
        Script s = filled(name);
        for (int wrong : WRONG) {
            s.refused(NO_REGISTER, x -> x.residue(wrong, 1));
            s.refused(NO_REGISTER, x -> x.residue(wrong, 7));
        }
    }
}
