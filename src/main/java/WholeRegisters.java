import java.util.Arrays;

/**
 * Whole numbers of any sign with up to 16384 bits, in twelve registers.
 *
 * <p>A size is a row of 32-bit words, the lowest word first. All rows are made in the constructor
 * and used again by every call: no call makes an array.
 */
public final class WholeRegisters {
    private static final int REGISTERS = 12;
    private static final int WORDS = 512;
    private static final int WORD_BITS = 32;
    private static final long LOW_WORD = 0xFFFFFFFFL;

    /** A sum or a product may have one word more than fits into a register. */
    private static final int RESULT_WORDS = WORDS + 1;

    /** A size of full length fills two words more once it has been moved up for its root. */
    private static final int LEFT_WORDS = WORDS + 2;

    /**
     * How far a guessed digit may lie above the true one: by 2 at most in a quotient, whose divisor
     * has its top bit set, and by 1 more in a root, where the digit is a part of the divisor.
     */
    private static final int GUESS_IS_OVER_BY = 3;

    /** The words of each register's size; those from counts[r] on are 0. */
    private final int[][] words;

    /** How many words each register's size has, without zeros ahead. */
    private final int[] counts;

    /** The sign of each register: -1, 0 or 1, and 0 just when its count is 0. */
    private final int[] signs;

    /** Where a call builds its size, so that the registers change only when nothing can throw. */
    private final int[] result;

    /** What is left of the number that is divided, or whose root is taken. */
    private final int[] left;

    /** What is taken from that in multiples: the divisor, or twice the root as far as known. */
    private final int[] divisor;

    public WholeRegisters() {
        words = new int[REGISTERS][WORDS];
        counts = new int[REGISTERS];
        signs = new int[REGISTERS];
        result = new int[RESULT_WORDS];
        left = new int[LEFT_WORDS];
        divisor = new int[RESULT_WORDS];
    }

    public void set(int r, long v) throws IndexOutOfBoundsException {
        checkRegister(r);
        // The size of the least long comes out as itself: read without a sign it is 2^63.
        long size = v < 0 ? -v : v;
        Arrays.fill(result, 0);
        result[0] = (int) size;
        result[1] = (int) (size >>> WORD_BITS);
        keepResult(r, v < 0 ? -1 : 1);
    }

    public void append(int r, int w) throws IndexOutOfBoundsException, IllegalStateException {
        checkRegister(r);
        int count = counts[r];
        if (count >= WORDS) {
            throw new IllegalStateException("the number is too long");
        }
        Arrays.fill(result, 0);
        System.arraycopy(words[r], 0, result, 1, count);
        result[0] = w;
        keepResult(r, signs[r] < 0 ? -1 : 1);
    }

    public void negate(int r) throws IndexOutOfBoundsException {
        checkRegister(r);
        signs[r] = -signs[r];
    }

    public void copy(int r, int a) throws IndexOutOfBoundsException {
        checkRegister(r);
        checkRegister(a);
        System.arraycopy(words[a], 0, words[r], 0, WORDS);
        counts[r] = counts[a];
        signs[r] = signs[a];
    }

    public void add(int r, int a, int b) throws IndexOutOfBoundsException, IllegalStateException {
        checkRegister(r);
        checkRegister(a);
        checkRegister(b);
        putSum(r, a, b, signs[b]);
    }

    public void subtract(int r, int a, int b)
            throws IndexOutOfBoundsException, IllegalStateException {
        checkRegister(r);
        checkRegister(a);
        checkRegister(b);
        putSum(r, a, b, -signs[b]);
    }

    public void multiply(int r, int a, int b)
            throws IndexOutOfBoundsException, IllegalStateException {
        checkRegister(r);
        checkRegister(a);
        checkRegister(b);
        // Sizes of m and n words have a product of m + n - 1 words at least.
        if (counts[a] + counts[b] > RESULT_WORDS) {
            throw new IllegalStateException("the number is too long");
        }
        multiplySizes(a, b);
        checkResultFits();
        keepResult(r, signs[a] * signs[b]);
    }

    public void divide(int q, int rest, int a, int b)
            throws IndexOutOfBoundsException, IllegalArgumentException {
        checkRegister(q);
        checkRegister(rest);
        checkRegister(a);
        checkRegister(b);
        if (q == rest) {
            throw new IllegalArgumentException("the quotient and the rest need two registers");
        }
        if (signs[b] == 0) {
            throw new IllegalArgumentException("division by 0");
        }
        int signOfQuotient = signs[a] * signs[b];
        int signOfRest = signs[a];
        int count = counts[b];
        int up = count * WORD_BITS - bitsOf(b);
        divideSizes(a, b, up);
        keepResult(q, signOfQuotient);
        moveDown(left, count, up);
        keepResult(rest, signOfRest);
    }

    public void root(int r, int a) throws IndexOutOfBoundsException, IllegalArgumentException {
        checkRegister(r);
        checkRegister(a);
        if (signs[a] < 0) {
            throw new IllegalArgumentException("the root of a number below 0");
        }
        if (signs[a] == 0) {
            Arrays.fill(result, 0);
        } else {
            takeRootOfSize(a);
        }
        keepResult(r, signs[a]);
    }

    public int compare(int a, int b) throws IndexOutOfBoundsException {
        checkRegister(a);
        checkRegister(b);
        if (signs[a] != signs[b]) {
            return signs[a] < signs[b] ? -1 : 1;
        }
        return signs[a] * orderOfSizes(a, b);
    }

    public int compareSizes(int a, int b) throws IndexOutOfBoundsException {
        checkRegister(a);
        checkRegister(b);
        return orderOfSizes(a, b);
    }

    public int sign(int a) throws IndexOutOfBoundsException {
        checkRegister(a);
        return signs[a];
    }

    public int bits(int a) throws IndexOutOfBoundsException {
        checkRegister(a);
        return bitsOf(a);
    }

    public int word(int a, int k) throws IndexOutOfBoundsException {
        checkRegister(a);
        if (k < 0 || k >= WORDS) {
            throw new IndexOutOfBoundsException("there is no such word");
        }
        return words[a][k];
    }

    public int residue(int a, int m) throws IndexOutOfBoundsException, IllegalArgumentException {
        checkRegister(a);
        if (m < 1) {
            throw new IllegalArgumentException("the modulus is below 1");
        }
        long residue = 0;
        for (int i = counts[a] - 1; i >= 0; i--) {
            residue = pairOf(residue, words[a][i]) % m;
        }
        if (signs[a] < 0 && residue != 0) {
            residue = m - residue;
        }
        return (int) residue;
    }

    private static void checkRegister(int r) {
        if (r < 0 || r >= REGISTERS) {
            throw new IndexOutOfBoundsException("there is no such register");
        }
    }

    private void checkResultFits() {
        if (result[WORDS] != 0) {
            throw new IllegalStateException("the number is too long");
        }
    }

    /** Puts the size in the result row, with this sign unless it is 0, into register r. */
    private void keepResult(int r, int sign) {
        int count = WORDS;
        while (count > 0 && result[count - 1] == 0) {
            count--;
        }
        System.arraycopy(result, 0, words[r], 0, WORDS);
        counts[r] = count;
        signs[r] = count == 0 ? 0 : sign;
    }

    private static long pairOf(long high, int low) {
        return high << WORD_BITS | low & LOW_WORD;
    }

    private int bitsOf(int a) {
        int count = counts[a];
        if (count == 0) {
            return 0;
        }
        return (count - 1) * WORD_BITS + bitsOfWord(words[a][count - 1]);
    }

    private static int bitsOfWord(int word) {
        int bits = WORD_BITS;
        while (bits > 0 && word >>> (bits - 1) == 0) {
            bits--;
        }
        return bits;
    }

    private int orderOfSizes(int a, int b) {
        if (counts[a] != counts[b]) {
            return counts[a] < counts[b] ? -1 : 1;
        }
        for (int i = counts[a] - 1; i >= 0; i--) {
            long wordOfA = words[a][i] & LOW_WORD;
            long wordOfB = words[b][i] & LOW_WORD;
            if (wordOfA != wordOfB) {
                return wordOfA < wordOfB ? -1 : 1;
            }
        }
        return 0;
    }

    /** Puts a plus b, b taken with the sign given, into register r. */
    private void putSum(int r, int a, int b, int signOfB) {
        int sign = signs[a] == 0 ? signOfB : signs[a];
        if (signs[a] * signOfB >= 0) {
            addSizes(a, b);
            checkResultFits();
        } else if (orderOfSizes(a, b) >= 0) {
            subtractSizes(a, b);
        } else {
            subtractSizes(b, a);
            sign = signOfB;
        }
        keepResult(r, sign);
    }

    private void addSizes(int a, int b) {
        Arrays.fill(result, 0);
        int count = Math.max(counts[a], counts[b]);
        long carry = 0;
        for (int i = 0; i < count; i++) {
            long sum = (words[a][i] & LOW_WORD) + (words[b][i] & LOW_WORD) + carry;
            result[i] = (int) sum;
            carry = sum >>> WORD_BITS;
        }
        result[count] = (int) carry;
    }

    /** The size of b must not be above that of a. */
    private void subtractSizes(int a, int b) {
        Arrays.fill(result, 0);
        long borrow = 0;
        for (int i = 0; i < counts[a]; i++) {
            long difference = (words[a][i] & LOW_WORD) - (words[b][i] & LOW_WORD) - borrow;
            result[i] = (int) difference;
            borrow = difference < 0 ? 1 : 0;
        }
    }

    /** The counts of a and b together must not be above RESULT_WORDS. */
    private void multiplySizes(int a, int b) {
        Arrays.fill(result, 0);
        for (int i = 0; i < counts[a]; i++) {
            addMultiple(i, b, words[a][i] & LOW_WORD);
        }
    }

    /** Adds factor times the size of b to the result from word at on. */
    private void addMultiple(int at, int b, long factor) {
        int[] row = words[b];
        int count = counts[b];
        long carry = 0;
        for (int i = 0; i < count; i++) {
            long sum = factor * (row[i] & LOW_WORD) + (result[at + i] & LOW_WORD) + carry;
            result[at + i] = (int) sum;
            carry = sum >>> WORD_BITS;
        }
        result[at + count] = (int) carry;
    }

    /**
     * Long division, word by word: the result row gets the quotient, the row of what is left the
     * rest moved up by up bits, as many as set the top bit of the divisor's top word.
     */
    private void divideSizes(int a, int b, int up) {
        moveUp(a, up, left);
        moveUp(b, up, divisor);
        Arrays.fill(result, 0);
        int count = counts[b];
        for (int at = counts[a] - count; at >= 0; at--) {
            result[at] = takeQuotientDigit(at, count);
        }
    }

    private int takeQuotientDigit(int at, int count) {
        long digit = guessDigit(at + count, count - 1);
        boolean below = takeMultiple(at, 0, count, digit);
        for (int over = 0; below && over < GUESS_IS_OVER_BY; over++) {
            digit--;
            below = giveBack(at, 0, count, 0);
        }
        return (int) digit;
    }

    /**
     * The root word by word, as it is done on paper. The size is moved up by an even number of
     * bits, so that the root's top word has 31 bits: twice the root then needs no further word,
     * and has the top bit that the guesses need. The result row gets the root.
     */
    private void takeRootOfSize(int a) {
        int bits = bitsOf(a);
        int count = (bits + 65) / 64;
        int up = (count * 64 - 2 - bits) / 2;
        moveUp(a, 2 * up, left);
        takeFirstRootDigit(count);
        for (int at = count - 2; at >= 0; at--) {
            takeRootDigit(at, count);
        }
        moveDown(divisor, count, up + 1);
    }

    private void takeFirstRootDigit(int count) {
        int top = 2 * count - 1;
        long pair = pairOf(left[top], left[top - 1]);
        long digit = rootOfPair(pair);
        left[top] = 0;
        left[top - 1] = (int) (pair - digit * digit);
        divisor[count - 1] = (int) (2 * digit);
    }

    /** The root of a number below 2^62, bit by bit. */
    private static long rootOfPair(long pair) {
        long root = 0;
        for (int bit = 30; bit >= 0; bit--) {
            long tried = root | 1L << bit;
            if (tried * tried <= pair) {
                root = tried;
            }
        }
        return root;
    }

    /**
     * Finds word at of the root, the words above it being known. With t for twice what is known,
     * moved up by a word, the digit d is the greatest with d * (t + d) not above what is left.
     */
    private void takeRootDigit(int at, int count) {
        int from = 2 * at;
        int length = count - at;
        long digit = guessDigit(from + length, count - 1);
        divisor[at] = (int) digit;
        boolean below = takeMultiple(from, at, length, digit);
        for (int over = 0; below && over < GUESS_IS_OVER_BY; over++) {
            digit--;
            // d * (t + d) less (d - 1) * (t + d - 1) is t + d and d - 1 more.
            below = giveBack(from, at, length, digit);
            divisor[at] = (int) digit;
        }
        divisor[at] = (int) (digit << 1);
        // Twice the root was even, so that this bit's place is free.
        divisor[at + 1] |= (int) (digit >>> (WORD_BITS - 1));
    }

    /**
     * The digit that the two words of what is left from top downwards and the divisor's top word
     * suggest: never too small, and hardly too great since the divisor's top bit is set.
     */
    private long guessDigit(int top, int topOfDivisor) {
        long pair = pairOf(left[top], left[top - 1]);
        return Math.min(quotientOfPair(pair, divisor[topOfDivisor] & LOW_WORD), LOW_WORD);
    }

    /** The quotient of a pair, read without a sign, and a word whose top bit is set. */
    private static long quotientOfPair(long pair, long word) {
        if (word == 0) {
            return 0;
        }
        // Only half the pair is sure to have no sign; its quotient doubled is right or 1 too small.
        long quotient = (pair >>> 1) / word * 2;
        return pair - quotient * word >= word ? quotient + 1 : quotient;
    }

    /**
     * Takes digit times the divisor (its length words from word from on) away from what is left,
     * from word at on. Answers whether that is below 0: then a borrow is missing above its words.
     */
    private boolean takeMultiple(int at, int from, int length, long digit) {
        long carry = 0;
        for (int i = 0; i < length; i++) {
            long product = digit * (divisor[from + i] & LOW_WORD) + carry;
            long difference = (left[at + i] & LOW_WORD) - (product & LOW_WORD);
            left[at + i] = (int) difference;
            carry = (product >>> WORD_BITS) + (difference < 0 ? 1 : 0);
        }
        long difference = (left[at + length] & LOW_WORD) - carry;
        left[at + length] = (int) difference;
        return difference < 0;
    }

    /**
     * Adds the divisor (its length words from word from on) and more to what is left, from word at
     * on, where that has fallen below 0. Answers whether it is below 0 still.
     */
    private boolean giveBack(int at, int from, int length, long more) {
        long carry = more;
        for (int i = 0; i < length; i++) {
            long sum = (left[at + i] & LOW_WORD) + (divisor[from + i] & LOW_WORD) + carry;
            left[at + i] = (int) sum;
            carry = sum >>> WORD_BITS;
        }
        long sum = (left[at + length] & LOW_WORD) + carry;
        left[at + length] = (int) sum;
        return sum <= LOW_WORD;
    }

    /** Puts the size of a, moved up by up bits, into a working row that has the room. */
    private void moveUp(int a, int up, int[] row) {
        Arrays.fill(row, 0);
        int skipped = up / WORD_BITS;
        int shift = up % WORD_BITS;
        for (int i = 0; i < counts[a]; i++) {
            long pair = (words[a][i] & LOW_WORD) << shift;
            row[i + skipped] |= (int) pair;
            row[i + skipped + 1] = (int) (pair >>> WORD_BITS);
        }
    }

    /** Puts the first count words of a working row, moved down by 0 .. 32 bits, into the result. */
    private void moveDown(int[] row, int count, int down) {
        Arrays.fill(result, 0);
        for (int i = 0; i < count; i++) {
            long high = i + 1 < count ? row[i + 1] : 0;
            result[i] = (int) (pairOf(high, row[i]) >>> down);
        }
    }
}
