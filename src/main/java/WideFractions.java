/** Eight registers of whole numbers of 128 bits without a sign; what each call does stands in DOC.md. */
public final class WideFractions {
    public static final int NONE = -1;

    private static final int REGISTERS = 8;
    private static final int HALF_BITS = 64;
    private static final int BITS = 128;
    private static final int PARTS = 4;
    private static final int PART_BITS = 32;
    private static final long PART_MASK = 0xFFFFFFFFL;
    private static final int MOST_DIGITS = 39;
    private static final long TEN = 10L;

    private final long[] highs;
    private final long[] lows;
    // A number in parts of 32 bits, the highest first: small enough to be divided as longs with a sign.
    private final long[] parts;
    // Digits come lowest first, so they fill the row from its end; the written ones start at firstDigit.
    private final int[] digitRow;
    private int firstDigit;

    public WideFractions() {
        highs = new long[REGISTERS];
        lows = new long[REGISTERS];
        parts = new long[PARTS];
        digitRow = new int[MOST_DIGITS];
        firstDigit = MOST_DIGITS;
    }

    public void set(int register, long high, long low) throws IndexOutOfBoundsException {
        checkRegister(register);
        store(register, high, low);
    }

    public long half(int register, boolean high) throws IndexOutOfBoundsException {
        checkRegister(register);
        return high ? highs[register] : lows[register];
    }

    public boolean add(int a, int b, int to) throws IndexOutOfBoundsException {
        checkRegister(a);
        checkRegister(b);
        checkRegister(to);
        long low = lows[a] + lows[b];
        long carry = oneIfBelow(low, lows[a]);
        long highSum = highs[a] + highs[b];
        long high = highSum + carry;
        // Only one of the two sums can pass 2^64, so either of them tells that the whole did.
        boolean passed = oneIfBelow(highSum, highs[a]) + oneIfBelow(high, carry) != 0;
        store(to, high, low);
        return passed;
    }

    public boolean subtract(int a, int b, int to) throws IndexOutOfBoundsException {
        checkRegister(a);
        checkRegister(b);
        checkRegister(to);
        boolean passed = isBelow(highs[a], lows[a], highs[b], lows[b]);
        long high = highs[a] - highs[b] - oneIfBelow(lows[a], lows[b]);
        store(to, high, lows[a] - lows[b]);
        return passed;
    }

    public void multiply(int a, int b, int over, int to) throws IndexOutOfBoundsException, IllegalArgumentException {
        checkRegister(a);
        checkRegister(b);
        checkRegister(over);
        checkRegister(to);
        checkApart(over, to);
        storeProduct(highs[a], lows[a], highs[b], lows[b], over, to);
    }

    public void divide(int a, int b, int to, int rest)
            throws IndexOutOfBoundsException, IllegalArgumentException, ArithmeticException {
        checkRegister(a);
        checkRegister(b);
        checkRegister(to);
        checkRegister(rest);
        checkApart(to, rest);
        if (highs[b] == 0 && lows[b] == 0) {
            throw new ArithmeticException("the divisor is 0");
        }
        storeQuotient(highs[a], lows[a], highs[b], lows[b], to, rest);
    }

    public void root(int a, int to, int rest) throws IndexOutOfBoundsException, IllegalArgumentException {
        checkRegister(a);
        checkRegister(to);
        checkRegister(rest);
        checkApart(to, rest);
        storeRoot(highs[a], lows[a], to, rest);
    }

    public boolean shift(int a, int n, int to) throws IndexOutOfBoundsException {
        checkRegister(a);
        checkRegister(to);
        if (n >= 0) {
            return storeShiftedUp(highs[a], lows[a], n, to);
        }
        // The lowest int has no opposite, and every distance from 128 on answers the same.
        int distance = n <= -BITS ? BITS : -n;
        return storeShiftedDown(highs[a], lows[a], distance, to);
    }

    public void jam(int a, int n, int to) throws IndexOutOfBoundsException, IllegalArgumentException {
        checkRegister(a);
        checkRegister(to);
        if (n < 0) {
            throw new IllegalArgumentException("the distance is below 0");
        }
        if (storeShiftedDown(highs[a], lows[a], n, to)) {
            lows[to] |= 1L;
        }
    }

    public int zeros(int register) throws IndexOutOfBoundsException {
        checkRegister(register);
        return zerosAbove(highs[register], lows[register]);
    }

    public int compare(int a, int b) throws IndexOutOfBoundsException {
        checkRegister(a);
        checkRegister(b);
        if (isBelow(highs[a], lows[a], highs[b], lows[b])) {
            return -1;
        }
        return isBelow(highs[b], lows[b], highs[a], lows[a]) ? 1 : 0;
    }

    public int digits(int register) throws IndexOutOfBoundsException {
        checkRegister(register);
        splitIntoParts(highs[register], lows[register]);
        int at = MOST_DIGITS;
        do {
            at--;
            digitRow[at] = takeLowestDigit();
        } while (at > 0 && !partsAreZero());
        firstDigit = at;
        return MOST_DIGITS - at;
    }

    public int digit(int i) {
        if (i < 0 || i >= MOST_DIGITS - firstDigit) {
            return NONE;
        }
        return digitRow[firstDigit + i];
    }

    public boolean next(int register, int d) throws IndexOutOfBoundsException, IllegalArgumentException {
        checkRegister(register);
        if (d < 0 || d >= TEN) {
            throw new IllegalArgumentException("not a digit 0 .. 9");
        }
        long lowTimesTen = lows[register] * TEN;
        long low = lowTimesTen + d;
        long carry = productOver(lows[register], TEN) + oneIfBelow(low, lowTimesTen);
        long high = highs[register] * TEN + carry;
        if (productOver(highs[register], TEN) + oneIfBelow(high, carry) != 0) {
            return false;
        }
        store(register, high, low);
        return true;
    }

    private static void checkRegister(int register) {
        if (register < 0 || register >= REGISTERS) {
            throw new IndexOutOfBoundsException("no such register");
        }
    }

    private static void checkApart(int one, int other) {
        if (one == other) {
            throw new IllegalArgumentException("both results would go to the same register");
        }
    }

    private void store(int register, long high, long low) {
        highs[register] = high;
        lows[register] = low;
    }

    /** As a number, so that it serves as carry (a sum below one of its terms) and as borrow alike. */
    private static long oneIfBelow(long x, long y) {
        return Long.compareUnsigned(x, y) < 0 ? 1L : 0L;
    }

    private static boolean isBelow(long xHigh, long xLow, long yHigh, long yLow) {
        int order = Long.compareUnsigned(xHigh, yHigh);
        return order < 0 || order == 0 && Long.compareUnsigned(xLow, yLow) < 0;
    }

    /** What x times y, both without a sign, has above its lowest 64 bits. */
    private static long productOver(long x, long y) {
        long xOver = x >>> PART_BITS;
        long xUnder = x & PART_MASK;
        long yOver = y >>> PART_BITS;
        long yUnder = y & PART_MASK;
        // A product of two parts leaves room for one part more, so neither sum passes 2^64.
        long first = xOver * yUnder + ((xUnder * yUnder) >>> PART_BITS);
        long second = xUnder * yOver + (first & PART_MASK);
        return xOver * yOver + (first >>> PART_BITS) + (second >>> PART_BITS);
    }

    private void storeProduct(long aHigh, long aLow, long bHigh, long bLow, int over, int to) {
        long crossA = aHigh * bLow;
        long crossB = aLow * bHigh;
        long crossSum = crossA + crossB;
        long toHigh = crossSum + productOver(aLow, bLow);
        long carry = oneIfBelow(crossSum, crossA) + oneIfBelow(toHigh, crossSum);

        long crossOverA = productOver(aHigh, bLow);
        long crossOver = crossOverA + productOver(aLow, bHigh);
        long withCarry = crossOver + carry;
        long overLow = withCarry + aHigh * bHigh;
        long overCarry = oneIfBelow(crossOver, crossOverA) + oneIfBelow(withCarry, carry)
                + oneIfBelow(overLow, withCarry);

        store(over, productOver(aHigh, bHigh) + overCarry, overLow);
        store(to, toHigh, aLow * bLow);
    }

    /** Long division bit by bit: a's bits leave upwards into what is left while the quotient's enter below. */
    private void storeQuotient(long aHigh, long aLow, long bHigh, long bLow, int to, int rest) {
        long high = aHigh;
        long low = aLow;
        long leftHigh = 0;
        long leftLow = 0;
        for (int i = 0; i < BITS; i++) {
            // Doubling may push a bit out of 128; what is left is then above b whatever its other bits say.
            boolean passed = leftHigh < 0;
            leftHigh = leftHigh << 1 | leftLow >>> 63;
            leftLow = leftLow << 1 | high >>> 63;
            high = high << 1 | low >>> 63;
            low = low << 1;
            if (passed || !isBelow(leftHigh, leftLow, bHigh, bLow)) {
                leftHigh = leftHigh - bHigh - oneIfBelow(leftLow, bLow);
                leftLow = leftLow - bLow;
                low |= 1L;
            }
        }
        store(to, high, low);
        store(rest, leftHigh, leftLow);
    }

    /** The root bit by bit, two bits of a for each; it fits in 64 bits, what is left needs one bit more. */
    private void storeRoot(long aHigh, long aLow, int to, int rest) {
        long high = aHigh;
        long low = aLow;
        long found = 0;
        long leftHigh = 0;
        long leftLow = 0;
        for (int i = 0; i < HALF_BITS; i++) {
            leftHigh = leftHigh << 2 | leftLow >>> 62;
            leftLow = leftLow << 2 | high >>> 62;
            high = high << 2 | low >>> 62;
            low = low << 2;
            // (2r + 1)^2 is 4r^2 + (4r + 1): one more bit of the root costs 4r + 1.
            long costHigh = found >>> 62;
            long costLow = found << 2 | 1L;
            found = found << 1;
            if (!isBelow(leftHigh, leftLow, costHigh, costLow)) {
                leftHigh = leftHigh - costHigh - oneIfBelow(leftLow, costLow);
                leftLow = leftLow - costLow;
                found |= 1L;
            }
        }
        store(to, 0L, found);
        store(rest, leftHigh, leftLow);
    }

    private boolean storeShiftedUp(long high, long low, int n, int to) {
        // Java's shifts take their distance by 64, so each stretch of 64 needs a line of its own.
        if (n >= BITS) {
            store(to, 0L, 0L);
        } else if (n >= HALF_BITS) {
            store(to, low << (n - HALF_BITS), 0L);
        } else if (n > 0) {
            store(to, high << n | low >>> (HALF_BITS - n), low << n);
        } else {
            store(to, high, low);
        }
        return (high | low) != 0 && n > zerosAbove(high, low);
    }

    private boolean storeShiftedDown(long high, long low, int n, int to) {
        if (n >= BITS) {
            store(to, 0L, 0L);
        } else if (n >= HALF_BITS) {
            store(to, 0L, high >>> (n - HALF_BITS));
        } else if (n > 0) {
            store(to, high >>> n, low >>> n | high << (HALF_BITS - n));
        } else {
            store(to, high, low);
        }
        return (high | low) != 0 && n > zerosBelow(high, low);
    }

    private static int zerosAbove(long high, long low) {
        return high != 0 ? Long.numberOfLeadingZeros(high) : HALF_BITS + Long.numberOfLeadingZeros(low);
    }

    private static int zerosBelow(long high, long low) {
        return low != 0 ? Long.numberOfTrailingZeros(low) : HALF_BITS + Long.numberOfTrailingZeros(high);
    }

    private void splitIntoParts(long high, long low) {
        parts[0] = high >>> PART_BITS;
        parts[1] = high & PART_MASK;
        parts[2] = low >>> PART_BITS;
        parts[3] = low & PART_MASK;
    }

    /** Divides the parts by ten where they stand; answers what is left. */
    private int takeLowestDigit() {
        long left = 0;
        for (int i = 0; i < PARTS; i++) {
            long now = left << PART_BITS | parts[i];
            parts[i] = now / TEN;
            left = now % TEN;
        }
        return (int) left;
    }

    private boolean partsAreZero() {
        return (parts[0] | parts[1] | parts[2] | parts[3]) == 0;
    }
}
