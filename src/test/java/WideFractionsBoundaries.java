/**
 * Each sentence of the document that names a boundary case, by a test of its own. What is due is written out, so that
 * nothing here leans on the reckoning of the other tests; a failure tells the sentence that is broken.
 */
public final class WideFractionsBoundaries {
    private static final long ONES = -1L;
    private static final long TOP = Long.MIN_VALUE;
    private static final int[] BELOW_AND_ABOVE = {-1, 8, Integer.MIN_VALUE, Integer.MAX_VALUE};
    // 10^38, the least number of 39 digits.
    private static final long TEN_38_HIGH = 0x4B3B4CA85A86C47AL;
    private static final long TEN_38_LOW = 0x098A224000000000L;
    // The greatest number whose tenfold is below 2^128; with 5 more that is 2^128 - 1.
    private static final long TENTH = 0x1999999999999999L;
    private static final long TENTH_LOW = 0x9999999999999999L;
    private static final String MOST = "340282366920938463463374607431768211455";

    private static String sentence = "";
    private static int wrong = 0;

    public static void main(String[] args) {
        terms();
        part(WideFractionsBoundaries::newObject);
        part(WideFractionsBoundaries::setAndHalf);
        part(WideFractionsBoundaries::add);
        part(WideFractionsBoundaries::subtract);
        part(WideFractionsBoundaries::multiply);
        part(WideFractionsBoundaries::divide);
        part(WideFractionsBoundaries::root);
        part(WideFractionsBoundaries::shift);
        part(WideFractionsBoundaries::jam);
        part(WideFractionsBoundaries::zeros);
        part(WideFractionsBoundaries::compare);
        part(WideFractionsBoundaries::digits);
        part(WideFractionsBoundaries::digit);
        part(WideFractionsBoundaries::next);
        System.out.println(wrong == 0 ? "all boundaries hold" : wrong + " answers are not as due");
        if (wrong != 0) {
            System.exit(1);
        }
    }

    /** An exception where none is due breaks the sentence at hand; the parts after it are still tested. */
    private static void part(Runnable tests) {
        try {
            tests.run();
        } catch (RuntimeException e) {
            is("no exception", e.toString());
        }
    }

    // ---- Terms

    private static void terms() {
        part(WideFractionsBoundaries::registersFrom0To7);
        part(WideFractionsBoundaries::noSuchRegister);
        part(WideFractionsBoundaries::numbersUpTo2To128Less1);
        part(WideFractionsBoundaries::halvesWithoutSign);
        part(WideFractionsBoundaries::callsThatThrowChangeNothing);
        part(WideFractionsBoundaries::exceptionNamedFirst);
        part(WideFractionsBoundaries::registerBeforeAnyOther);
        part(WideFractionsBoundaries::fiveHundredAndTwelveCalls);
    }

    private static void registersFrom0To7() {
        sentence = "Terms: registers 0 .. 7";
        for (int r = 0; r <= 7; r++) {
            WideFractions x = new WideFractions();
            x.set(r, 5L, 6L);
            for (int other = 0; other <= 7; other++) {
                holds(x, other, other == r ? 5L : 0L, other == r ? 6L : 0L);
            }
        }
    }

    private static void noSuchRegister() {
        sentence = "Terms: IndexOutOfBoundsException: there is no such register";
        for (int bad : BELOW_AND_ABOVE) {
            refusedForOneRegister(bad);
            refusedForTwoRegisters(bad);
            refusedForThreeRegisters(bad);
            refusedForFourRegisters(bad);
        }
    }

    private static void refusedForOneRegister(int bad) {
        refused("IndexOutOfBoundsException", x -> x.set(bad, 1L, 2L));
        refused("IndexOutOfBoundsException", x -> x.half(bad, true));
        refused("IndexOutOfBoundsException", x -> x.half(bad, false));
        refused("IndexOutOfBoundsException", x -> x.zeros(bad));
        refused("IndexOutOfBoundsException", x -> x.digits(bad));
        refused("IndexOutOfBoundsException", x -> x.next(bad, 1));
    }

    private static void refusedForTwoRegisters(int bad) {
        refused("IndexOutOfBoundsException", x -> x.compare(bad, 1));
        refused("IndexOutOfBoundsException", x -> x.compare(1, bad));
        refused("IndexOutOfBoundsException", x -> x.shift(bad, 1, 1));
        refused("IndexOutOfBoundsException", x -> x.shift(1, 1, bad));
        refused("IndexOutOfBoundsException", x -> x.shift(1, -1, bad));
        refused("IndexOutOfBoundsException", x -> x.jam(bad, 1, 1));
        refused("IndexOutOfBoundsException", x -> x.jam(1, 1, bad));
    }

    private static void refusedForThreeRegisters(int bad) {
        refused("IndexOutOfBoundsException", x -> x.add(bad, 1, 2));
        refused("IndexOutOfBoundsException", x -> x.add(1, bad, 2));
        refused("IndexOutOfBoundsException", x -> x.add(1, 2, bad));
        refused("IndexOutOfBoundsException", x -> x.subtract(bad, 1, 2));
        refused("IndexOutOfBoundsException", x -> x.subtract(1, bad, 2));
        refused("IndexOutOfBoundsException", x -> x.subtract(1, 2, bad));
        refused("IndexOutOfBoundsException", x -> x.root(bad, 1, 2));
        refused("IndexOutOfBoundsException", x -> x.root(1, bad, 2));
        refused("IndexOutOfBoundsException", x -> x.root(1, 2, bad));
    }

    private static void refusedForFourRegisters(int bad) {
        refused("IndexOutOfBoundsException", x -> x.multiply(bad, 1, 2, 3));
        refused("IndexOutOfBoundsException", x -> x.multiply(1, bad, 2, 3));
        refused("IndexOutOfBoundsException", x -> x.multiply(1, 2, bad, 3));
        refused("IndexOutOfBoundsException", x -> x.multiply(1, 2, 3, bad));
        refused("IndexOutOfBoundsException", x -> x.divide(bad, 1, 2, 3));
        refused("IndexOutOfBoundsException", x -> x.divide(1, bad, 2, 3));
        refused("IndexOutOfBoundsException", x -> x.divide(1, 2, bad, 3));
        refused("IndexOutOfBoundsException", x -> x.divide(1, 2, 3, bad));
    }

    private static void numbersUpTo2To128Less1() {
        sentence = "Terms: numbers 0 .. 2^128 - 1";
        WideFractions x = with(ONES, ONES);
        holds(x, 0, ONES, ONES);
        x.set(0, 0L, 0L);
        holds(x, 0, 0L, 0L);
    }

    private static void halvesWithoutSign() {
        sentence = "Terms: halves as longs without a sign";
        WideFractions lowTop = with(0L, TOP);
        written(lowTop, 0, "9223372036854775808");
        WideFractions highTop = with(TOP, 0L);
        written(highTop, 0, "170141183460469231731687303715884105728");
        is(1, with(TOP, 0L, Long.MAX_VALUE, ONES).compare(0, 1));
        is(1, with(0L, TOP, 0L, Long.MAX_VALUE).compare(0, 1));
    }

    private static void callsThatThrowChangeNothing() {
        sentence = "Terms: a call that throws changes nothing";
        refused("IllegalArgumentException", x -> x.multiply(0, 1, 2, 2));
        refused("IllegalArgumentException", x -> x.divide(0, 1, 2, 2));
        refused("ArithmeticException", x -> x.divide(0, 4, 2, 3));
        refused("IllegalArgumentException", x -> x.root(0, 2, 2));
        refused("IllegalArgumentException", x -> x.jam(0, -1, 2));
        refused("IllegalArgumentException", x -> x.next(2, 10));
        // Here the refused call may have begun to write digits or a first result before it saw what is wrong.
        refused("IndexOutOfBoundsException", x -> x.digits(8));
        refused("IndexOutOfBoundsException", x -> x.divide(0, 1, 2, 8));
        refused("IndexOutOfBoundsException", x -> x.multiply(0, 1, 2, 8));
        refused("IndexOutOfBoundsException", x -> x.root(0, 2, 8));
    }

    private static void exceptionNamedFirst() {
        sentence = "Terms: where several exceptions fit, the one named first is thrown";
        // The divisor is 0, and both results go to one register.
        refused("IllegalArgumentException", x -> x.divide(0, 4, 2, 2));
        refused("IllegalArgumentException", x -> x.divide(0, 4, 4, 4));
        refused("IllegalArgumentException", x -> x.divide(4, 4, 0, 0));
    }

    private static void registerBeforeAnyOther() {
        sentence = "Terms: IndexOutOfBoundsException is named first everywhere";
        for (int bad : BELOW_AND_ABOVE) {
            refused("IndexOutOfBoundsException", x -> x.multiply(bad, 1, 2, 2));
            refused("IndexOutOfBoundsException", x -> x.multiply(1, bad, 2, 2));
            refused("IndexOutOfBoundsException", x -> x.multiply(0, 1, bad, bad));
            refused("IndexOutOfBoundsException", x -> x.divide(bad, 1, 2, 2));
            refused("IndexOutOfBoundsException", x -> x.divide(1, bad, 2, 2));
            refused("IndexOutOfBoundsException", x -> x.divide(0, 1, bad, bad));
            refused("IndexOutOfBoundsException", x -> x.divide(bad, 4, 2, 3));
            refused("IndexOutOfBoundsException", x -> x.divide(0, 4, bad, 3));
            refused("IndexOutOfBoundsException", x -> x.divide(0, 4, 2, bad));
            refused("IndexOutOfBoundsException", x -> x.root(bad, 2, 2));
            refused("IndexOutOfBoundsException", x -> x.root(0, bad, bad));
            refused("IndexOutOfBoundsException", x -> x.jam(bad, -1, 2));
            refused("IndexOutOfBoundsException", x -> x.jam(0, -1, bad));
            refused("IndexOutOfBoundsException", x -> x.next(bad, -1));
            refused("IndexOutOfBoundsException", x -> x.next(bad, 10));
        }
    }

    private static void fiveHundredAndTwelveCalls() {
        sentence = "What it is: an object is used for at most 512 calls";
        WideFractions x = new WideFractions();
        x.set(1, 0L, 1L);
        for (int call = 2; call < 512; call++) {
            x.add(0, 1, 0);
        }
        is(510L, x.half(0, false));
    }

    // ---- Promise 1

    private static void newObject() {
        sentence = "1: all registers 0";
        for (int r = 0; r <= 7; r++) {
            WideFractions x = new WideFractions();
            holds(x, r, 0L, 0L);
            is(128, x.zeros(r));
        }

        sentence = "1: no digits written";
        for (int i = -1; i <= 40; i++) {
            is(WideFractions.NONE, new WideFractions().digit(i));
        }

        sentence = "1: a new object has nothing of one made before";
        WideFractions used = with(ONES, ONES);
        used.digits(0);
        WideFractions fresh = new WideFractions();
        holds(fresh, 0, 0L, 0L);
        is(WideFractions.NONE, fresh.digit(0));
    }

    // ---- Promises 2 and 3

    private static void setAndHalf() {
        sentence = "2: a register becomes the number with these halves, whatever it was";
        WideFractions x = with(ONES, ONES);
        x.set(0, TOP, 0L);
        holds(x, 0, TOP, 0L);
        x.set(0, 0L, TOP);
        holds(x, 0, 0L, TOP);
        x.set(0, Long.MAX_VALUE, ONES);
        holds(x, 0, Long.MAX_VALUE, ONES);

        sentence = "3: the high half, or the low one";
        WideFractions halves = with(1L, 2L);
        is(1L, halves.half(0, true));
        is(2L, halves.half(0, false));
        holds(halves, 0, 1L, 2L);
    }

    // ---- Promise 4

    private static void add() {
        sentence = "4: below 2^128 nothing is taken off";
        sum(false, with(ONES, ONES, 0L, 0L), ONES, ONES);
        sum(false, with(TOP, 0L, Long.MAX_VALUE, ONES), ONES, ONES);
        sum(false, with(0L, 0L, 0L, 0L), 0L, 0L);
        sum(false, with(0L, ONES, 0L, 1L), 1L, 0L);
        sum(false, with(ONES - 1, ONES, 0L, ONES), ONES, ONES - 1);

        sentence = "4: less 2^128 if that is not below it";
        sum(true, with(ONES, ONES, 0L, 1L), 0L, 0L);
        sum(true, with(0L, 1L, ONES, ONES), 0L, 0L);
        sum(true, with(TOP, 0L, TOP, 0L), 0L, 0L);
        sum(true, with(ONES, ONES, ONES, ONES), ONES, ONES - 1);
        sum(true, with(ONES, 0L, 1L, 0L), 0L, 0L);
        sum(true, with(ONES, 1L, 0L, ONES), 0L, 0L);

        sentence = "4: the result may go to a register that is added";
        WideFractions x = with(TOP, 1L, 2L, 3L);
        is(false, x.add(0, 1, 1));
        holds(x, 1, TOP + 2, 4L);
        is(true, x.add(0, 0, 0));
        holds(x, 0, 0L, 2L);
    }

    private static void sum(boolean passed, WideFractions x, long high, long low) {
        is(passed, x.add(0, 1, 2));
        holds(x, 2, high, low);
    }

    // ---- Promise 5

    private static void subtract() {
        sentence = "5: not below 0, nothing is added";
        difference(false, with(0L, 0L, 0L, 0L), 0L, 0L);
        difference(false, with(ONES, ONES, ONES, ONES), 0L, 0L);
        difference(false, with(ONES, ONES, 0L, 0L), ONES, ONES);
        difference(false, with(1L, 0L, 0L, 1L), 0L, ONES);
        difference(false, with(TOP, 0L, Long.MAX_VALUE, ONES), 0L, 1L);

        sentence = "5: with 2^128 more if that is below 0";
        difference(true, with(0L, 0L, 0L, 1L), ONES, ONES);
        difference(true, with(0L, 0L, ONES, ONES), 0L, 1L);
        difference(true, with(ONES, ONES - 1, ONES, ONES), ONES, ONES);
        difference(true, with(0L, ONES, 1L, 0L), ONES, ONES);
        difference(true, with(Long.MAX_VALUE, ONES, TOP, 0L), ONES, ONES);

        sentence = "5: the result may go to a register that is used";
        WideFractions x = with(0L, 5L, 0L, 7L);
        is(true, x.subtract(0, 1, 1));
        holds(x, 1, ONES, ONES - 1);
        is(true, x.subtract(0, 1, 0));
        holds(x, 0, 0L, 7L);
        is(false, x.subtract(0, 0, 0));
        holds(x, 0, 0L, 0L);
        WideFractions borrowing = with(1L, 5L, 0L, 7L);
        is(false, borrowing.subtract(0, 1, 0));
        holds(borrowing, 0, 0L, ONES - 1);
    }

    private static void difference(boolean passed, WideFractions x, long high, long low) {
        is(passed, x.subtract(0, 1, 2));
        holds(x, 2, high, low);
    }

    // ---- Promise 6

    private static void multiply() {
        sentence = "6: over is 0 below 2^128";
        product(with(ONES, ONES, 0L, 0L), 0L, 0L, 0L, 0L);
        product(with(ONES, ONES, 0L, 1L), 0L, 0L, ONES, ONES);
        product(with(0L, ONES, 1L, 1L), 0L, 0L, ONES, ONES);
        product(with(0L, ONES, 0L, ONES), 0L, 0L, ONES - 1, 1L);

        sentence = "6: over its whole part by 2^128, to what is left";
        product(with(1L, 0L, 1L, 0L), 0L, 1L, 0L, 0L);
        product(with(TOP, 0L, 0L, 2L), 0L, 1L, 0L, 0L);
        product(with(ONES, ONES, 0L, 2L), 0L, 1L, ONES, ONES - 1);
        product(with(TOP, 0L, TOP, 0L), 0x4000000000000000L, 0L, 0L, 0L);
        product(with(ONES, ONES, ONES, ONES), ONES, ONES - 1, 0L, 1L);

        sentence = "6: a carry goes from half to half, through one that is all ones too";
        product(with(1L, 1L, ONES, 1L), 1L, 0L, 0L, 1L);
        product(with(2L, ONES, ONES, ONES), 2L, ONES - 1, ONES - 2, 1L);
        product(with(ONES, 2L, ONES, ONES), ONES, 1L, 0L, ONES - 1);
        product(with(ONES, ONES, TOP, TOP + 1), TOP, TOP, Long.MAX_VALUE, Long.MAX_VALUE);

        sentence = "6: the results may go to the registers that are used";
        WideFractions x = with(2L, 3L, 5L, 7L);
        x.multiply(0, 1, 1, 0);
        holds(x, 1, 0L, 10L);
        holds(x, 0, 29L, 21L);
        WideFractions square = with(ONES, ONES);
        square.multiply(0, 0, 1, 0);
        holds(square, 1, ONES, ONES - 1);
        holds(square, 0, 0L, 1L);

        sentence = "6: IllegalArgumentException when to and over are the same";
        for (int r = 0; r <= 7; r++) {
            int both = r;
            refused("IllegalArgumentException", y -> y.multiply(0, 1, both, both));
        }

        sentence = "6: a and b may be the same, and the same as over or to";
        WideFractions one = with(0L, 1L);
        one.multiply(0, 0, 0, 1);
        holds(one, 0, 0L, 0L);
        holds(one, 1, 0L, 1L);
    }

    private static void product(WideFractions x, long overHigh, long overLow, long toHigh, long toLow) {
        x.multiply(0, 1, 2, 3);
        holds(x, 2, overHigh, overLow);
        holds(x, 3, toHigh, toLow);
    }

    // ---- Promise 7

    private static void divide() {
        sentence = "7: a less than b: the whole part is 0, what is left is a";
        quotient(with(0L, 0L, 0L, 1L), 0L, 0L, 0L, 0L);
        quotient(with(ONES, ONES - 1, ONES, ONES), 0L, 0L, ONES, ONES - 1);
        quotient(with(Long.MAX_VALUE, ONES, TOP, 0L), 0L, 0L, Long.MAX_VALUE, ONES);

        sentence = "7: a not less than b";
        quotient(with(ONES, ONES, 0L, 1L), ONES, ONES, 0L, 0L);
        quotient(with(ONES, ONES, ONES, ONES), 0L, 1L, 0L, 0L);
        quotient(with(ONES, ONES, ONES, ONES - 1), 0L, 1L, 0L, 1L);
        quotient(with(ONES, ONES, TOP, 0L), 0L, 1L, Long.MAX_VALUE, ONES);
        quotient(with(ONES, ONES, TOP, 1L), 0L, 1L, Long.MAX_VALUE, ONES - 1);
        quotient(with(ONES, ONES, 1L, 0L), 0L, ONES, 0L, ONES);
        quotient(with(ONES, ONES, 0L, ONES), 1L, 1L, 0L, 0L);
        quotient(with(ONES, ONES, 0L, 10L), TENTH, TENTH_LOW, 0L, 5L);
        quotient(with(2L, 0L, 1L, 1L), 0L, 1L, 0L, ONES);

        sentence = "7: the results may go to the registers that are used";
        WideFractions x = with(0L, 17L, 0L, 5L);
        x.divide(0, 1, 1, 0);
        holds(x, 1, 0L, 3L);
        holds(x, 0, 0L, 2L);
        WideFractions self = with(0L, 17L);
        self.divide(0, 0, 0, 1);
        holds(self, 0, 0L, 1L);
        holds(self, 1, 0L, 0L);

        sentence = "7: IllegalArgumentException when to and rest are the same";
        for (int r = 0; r <= 7; r++) {
            int both = r;
            refused("IllegalArgumentException", y -> y.divide(0, 1, both, both));
        }

        sentence = "7: ArithmeticException when b is 0";
        refused("ArithmeticException", y -> y.divide(0, 4, 2, 3));
        refused("ArithmeticException", y -> y.divide(4, 4, 2, 3));
        refused("ArithmeticException", y -> y.divide(0, 4, 4, 0));

        sentence = "7: b is not 0 when only one half of it is";
        quotient(with(0L, 1L, 1L, 0L), 0L, 0L, 0L, 1L);
        quotient(with(0L, 1L, 0L, 1L), 0L, 1L, 0L, 0L);
    }

    private static void quotient(WideFractions x, long toHigh, long toLow, long restHigh, long restLow) {
        x.divide(0, 1, 2, 3);
        holds(x, 2, toHigh, toLow);
        holds(x, 3, restHigh, restLow);
    }

    // ---- Promise 8

    private static void root() {
        sentence = "8: the least numbers";
        rooted(0L, 0L, 0L, 0L, 0L);
        rooted(0L, 1L, 1L, 0L, 0L);
        rooted(0L, 2L, 1L, 0L, 1L);
        rooted(0L, 3L, 1L, 0L, 2L);
        rooted(0L, 4L, 2L, 0L, 0L);

        sentence = "8: just below a square, at it, and the greatest numbers";
        rooted(0L, ONES, 0xFFFFFFFFL, 0L, 0x1FFFFFFFEL);
        rooted(1L, 0L, 0x100000000L, 0L, 0L);
        rooted(ONES - 1, 0L, ONES - 1, 1L, ONES - 3);
        rooted(ONES - 1, 1L, ONES, 0L, 0L);
        rooted(ONES - 1, 2L, ONES, 0L, 1L);
        rooted(ONES, ONES, ONES, 1L, ONES - 1);

        sentence = "8: the results may go to the register that is used";
        WideFractions x = with(0L, 18L);
        x.root(0, 0, 1);
        holds(x, 0, 0L, 4L);
        holds(x, 1, 0L, 2L);
        WideFractions y = with(0L, 18L);
        y.root(0, 1, 0);
        holds(y, 1, 0L, 4L);
        holds(y, 0, 0L, 2L);

        sentence = "8: IllegalArgumentException when to and rest are the same";
        for (int r = 0; r <= 7; r++) {
            int both = r;
            refused("IllegalArgumentException", z -> z.root(0, both, both));
        }
    }

    private static void rooted(long high, long low, long root, long restHigh, long restLow) {
        // Results before the call, so that halves which stay unwritten are seen.
        WideFractions x = with(high, low, ONES, ONES, ONES, ONES);
        x.root(0, 1, 2);
        holds(x, 1, 0L, root);
        holds(x, 2, restHigh, restLow);
    }

    // ---- Promise 9

    private static void shift() {
        sentence = "9: by 2^0 a stays and nothing is lost";
        shifted(false, ONES, ONES, 0, ONES, ONES);
        shifted(false, 1L, 2L, 0, 1L, 2L);
        shifted(false, 0L, 0L, 0, 0L, 0L);

        sentence = "9: up, no bit that is 1 is lost";
        shifted(false, 0L, 1L, 63, 0L, TOP);
        shifted(false, 0L, 1L, 64, 1L, 0L);
        shifted(false, 0L, 1L, 65, 2L, 0L);
        shifted(false, 0L, 1L, 127, TOP, 0L);
        shifted(false, 0L, TOP, 1, 1L, 0L);
        shifted(false, 0L, ONES, 60, ONES >>> 4, 0xFL << 60);
        shifted(false, 0L, ONES, 64, ONES, 0L);
        shifted(false, 0x4000000000000000L, 0L, 1, TOP, 0L);

        sentence = "9: up, what is below 2^128, and a bit that is 1 is lost";
        shifted(true, TOP, 0L, 1, 0L, 0L);
        shifted(true, ONES, ONES, 1, ONES, ONES - 1);
        shifted(true, 0L, 2L, 127, 0L, 0L);
        shifted(true, ONES, ONES, 127, TOP, 0L);
        shifted(true, 1L, 0L, 64, 0L, 0L);
        shifted(true, 0L, ONES, 65, ONES - 1, 0L);

        sentence = "9: n below 0, no bit that is 1 is lost";
        shifted(false, TOP, 0L, -63, 1L, 0L);
        shifted(false, TOP, 0L, -64, 0L, TOP);
        shifted(false, TOP, 0L, -65, 0L, 0x4000000000000000L);
        shifted(false, TOP, 0L, -127, 0L, 1L);
        shifted(false, 1L, 0L, -1, 0L, TOP);
        shifted(false, 0L, TOP, -1, 0L, 0x4000000000000000L);
        shifted(false, 0L, 2L, -1, 0L, 1L);

        sentence = "9: n below 0, cut off, and a bit that is 1 is lost";
        shifted(true, 0L, 1L, -1, 0L, 0L);
        shifted(true, 0L, 3L, -1, 0L, 1L);
        shifted(true, ONES, ONES, -1, Long.MAX_VALUE, ONES);
        shifted(true, 0L, TOP, -64, 0L, 0L);
        shifted(true, ONES, ONES, -127, 0L, 1L);

        farShifts();
    }

    private static void farShifts() {
        sentence = "9: by 2^128 or more either way nothing stays";
        for (int n : new int[] {128, 129, 192, 256, Integer.MAX_VALUE, -128, -129, -192, -256, -Integer.MAX_VALUE,
                Integer.MIN_VALUE}) {
            shifted(true, ONES, ONES, n, 0L, 0L);
            shifted(true, 0L, 1L, n, 0L, 0L);
            shifted(true, TOP, 0L, n, 0L, 0L);
        }

        sentence = "9: 0 has no bit to lose";
        for (int n : new int[] {1, 64, 127, 128, Integer.MAX_VALUE, -1, -64, -127, -128, Integer.MIN_VALUE}) {
            shifted(false, 0L, 0L, n, 0L, 0L);
        }

        sentence = "9: the result may go to the register that is used";
        WideFractions x = with(0L, 3L);
        is(false, x.shift(0, 64, 0));
        holds(x, 0, 3L, 0L);
        is(true, x.shift(0, -65, 0));
        holds(x, 0, 0L, 1L);
    }

    private static void shifted(boolean lost, long high, long low, int n, long dueHigh, long dueLow) {
        WideFractions x = with(high, low, ONES, ONES);
        is(lost, x.shift(0, n, 1));
        holds(x, 1, dueHigh, dueLow);
        holds(x, 0, high, low);
    }

    // ---- Promise 10

    private static void jam() {
        sentence = "10: nothing is lost, the lowest bit is as cut off";
        jammed(0L, 2L, 0, 0L, 2L);
        jammed(ONES, ONES, 0, ONES, ONES);
        jammed(1L, 2L, 0, 1L, 2L);
        jammed(0L, 4L, 1, 0L, 2L);
        jammed(0L, 6L, 1, 0L, 3L);
        jammed(2L, 0L, 64, 0L, 2L);
        jammed(2L, 0L, 1, 1L, 0L);
        jammed(TOP, 0L, 127, 0L, 1L);

        sentence = "10: the lowest bit 1 if something is lost";
        jammed(0L, 1L, 1, 0L, 1L);
        jammed(0L, 5L, 1, 0L, 3L);
        jammed(0L, 7L, 1, 0L, 3L);
        jammed(4L, 1L, 64, 0L, 5L);
        jammed(4L, TOP, 64, 0L, 5L);
        jammed(4L, 1L, 1, 2L, 1L);
        jammed(TOP, 1L, 63, 1L, 1L);

        sentence = "10: by 2^128 or more only the jammed bit is left, none for 0";
        for (int n : new int[] {128, 129, 192, 256, Integer.MAX_VALUE}) {
            jammed(0L, 1L, n, 0L, 1L);
            jammed(TOP, 0L, n, 0L, 1L);
            jammed(ONES, ONES, n, 0L, 1L);
            jammed(0L, 0L, n, 0L, 0L);
        }

        sentence = "10: the result may go to the register that is used";
        WideFractions x = with(4L, 1L);
        x.jam(0, 64, 0);
        holds(x, 0, 0L, 5L);

        sentence = "10: IllegalArgumentException when n is below 0";
        refused("IllegalArgumentException", y -> y.jam(0, -1, 2));
        refused("IllegalArgumentException", y -> y.jam(4, -1, 4));
        refused("IllegalArgumentException", y -> y.jam(0, -128, 2));
        refused("IllegalArgumentException", y -> y.jam(0, Integer.MIN_VALUE, 2));
    }

    private static void jammed(long high, long low, int n, long dueHigh, long dueLow) {
        WideFractions x = with(high, low, ONES, ONES);
        x.jam(0, n, 1);
        holds(x, 1, dueHigh, dueLow);
        holds(x, 0, high, low);
    }

    // ---- Promise 11

    private static void zeros() {
        sentence = "11: 128 for 0";
        is(128, with(0L, 0L).zeros(0));

        sentence = "11: bits that are 0 above the highest one that is 1";
        is(127, with(0L, 1L).zeros(0));
        is(64, with(0L, TOP).zeros(0));
        is(64, with(0L, ONES).zeros(0));
        is(63, with(1L, 0L).zeros(0));
        is(63, with(1L, ONES).zeros(0));
        is(1, with(Long.MAX_VALUE, ONES).zeros(0));
        is(0, with(TOP, 0L).zeros(0));
        is(0, with(ONES, ONES).zeros(0));
    }

    // ---- Promise 12

    private static void compare() {
        sentence = "12: the same";
        is(0, with(0L, 0L, 0L, 0L).compare(0, 1));
        is(0, with(ONES, ONES, ONES, ONES).compare(0, 1));
        is(0, with(3L, 4L).compare(0, 0));

        sentence = "12: less, and the other way round greater";
        ordered(0L, 0L, 0L, 1L);
        ordered(0L, 0L, ONES, ONES);
        ordered(ONES, ONES - 1, ONES, ONES);
        ordered(0L, ONES, 1L, 0L);
        ordered(Long.MAX_VALUE, ONES, TOP, 0L);
        ordered(7L, Long.MAX_VALUE, 7L, TOP);
        ordered(1L, 9L, 2L, 3L);
    }

    private static void ordered(long lessHigh, long lessLow, long high, long low) {
        WideFractions x = with(lessHigh, lessLow, high, low);
        is(-1, x.compare(0, 1));
        is(1, x.compare(1, 0));
        holds(x, 0, lessHigh, lessLow);
        holds(x, 1, high, low);
    }

    // ---- Promise 13

    private static void digits() {
        sentence = "13 and Terms: 0 is one digit, 0";
        written(with(0L, 0L), 0, "0");

        sentence = "13 and Terms: the highest first, and no 0 before it";
        written(with(0L, 9L), 0, "9");
        written(with(0L, 10L), 0, "10");
        written(with(0L, 99L), 0, "99");
        written(with(0L, 100L), 0, "100");
        written(with(0L, ONES), 0, "18446744073709551615");
        written(with(1L, 0L), 0, "18446744073709551616");
        // After their lowest digit only one stretch of 32 bits is left that is not 0.
        written(with(0L, 10L << 32), 0, "42949672960");
        written(with(10L, 0L), 0, "184467440737095516160");
        written(with(10L << 32, 0L), 0, "792281625142643375935439503360");

        sentence = "13 and Terms: at most 39";
        written(with(TEN_38_HIGH, TEN_38_LOW - 1), 0, "9".repeat(38));
        written(with(TEN_38_HIGH, TEN_38_LOW), 0, "1" + "0".repeat(38));
        written(with(ONES, ONES), 0, MOST);

        sentence = "13: the register stays";
        WideFractions x = with(ONES, ONES);
        x.digits(0);
        holds(x, 0, ONES, ONES);
    }

    // ---- Promise 14

    private static void digit() {
        sentence = "14: NONE is -1";
        is(-1, WideFractions.NONE);

        sentence = "14: NONE when there is none: below 0, and from the count on";
        WideFractions x = with(0L, 907L, ONES, ONES);
        x.digits(0);
        is(9, x.digit(0));
        is(7, x.digit(2));
        for (int i : new int[] {-1, -39, Integer.MIN_VALUE, 3, 4, 38, 39, 40, Integer.MAX_VALUE}) {
            is(WideFractions.NONE, x.digit(i));
        }
        x.digits(1);
        is(5, x.digit(38));
        for (int i : new int[] {-1, Integer.MIN_VALUE, 39, 40, Integer.MAX_VALUE}) {
            is(WideFractions.NONE, x.digit(i));
        }

        sentence = "14: of those written last, fewer than before too";
        written(x, 0, "907");
        written(x, 2, "0");
        written(x, 1, MOST);

        sentence = "14: a register that changes later leaves those written last";
        x.digits(0);
        x.set(0, 0L, 4L);
        x.next(0, 2);
        is(9, x.digit(0));
        is(WideFractions.NONE, x.digit(3));

        sentence = "14: digits() that throws leaves those written last";
        is("IndexOutOfBoundsException", got(x, y -> y.digits(8)));
        is(9, x.digit(0));
        is(0, x.digit(1));
        is(7, x.digit(2));
        is(WideFractions.NONE, x.digit(3));
    }

    // ---- Promise 15

    private static void next() {
        sentence = "15: ten times itself and d more, below 2^128";
        nexted(true, 0L, 0L, 0, 0L, 0L);
        nexted(true, 0L, 0L, 9, 0L, 9L);
        nexted(true, 0L, 9L, 9, 0L, 99L);
        nexted(true, 0L, TENTH, 5, 0L, ONES);
        nexted(true, 0L, TENTH, 6, 1L, 0L);
        nexted(true, TENTH, TENTH_LOW, 0, ONES, ONES - 5);
        nexted(true, TENTH, TENTH_LOW, 5, ONES, ONES);

        sentence = "15: not below 2^128: it stays";
        nexted(false, TENTH, TENTH_LOW, 6, TENTH, TENTH_LOW);
        nexted(false, TENTH, TENTH_LOW, 9, TENTH, TENTH_LOW);
        nexted(false, TENTH, TENTH_LOW + 1, 0, TENTH, TENTH_LOW + 1);
        nexted(false, TENTH + 1, 0L, 0, TENTH + 1, 0L);
        nexted(false, TOP, 0L, 0, TOP, 0L);
        nexted(false, 0x3333333333333333L, ONES, 0, 0x3333333333333333L, ONES);
        nexted(false, ONES, ONES, 0, ONES, ONES);
        nexted(false, ONES, ONES, 9, ONES, ONES);

        sentence = "15: after a digit that did not fit, one that fits still goes in";
        WideFractions x = with(TENTH, TENTH_LOW);
        is(false, x.next(0, 6));
        is(true, x.next(0, 5));
        holds(x, 0, ONES, ONES);

        sentence = "15: IllegalArgumentException when d is not 0 .. 9, also where it would not fit";
        for (int d : new int[] {-1, 10, Integer.MIN_VALUE, Integer.MAX_VALUE}) {
            refused("IllegalArgumentException", y -> y.next(2, d));
            refused("IllegalArgumentException", y -> y.next(0, d));
        }
    }

    private static void nexted(boolean fits, long high, long low, int d, long dueHigh, long dueLow) {
        WideFractions x = with(high, low);
        is(fits, x.next(0, d));
        holds(x, 0, dueHigh, dueLow);
    }

    // ---- Means

    private interface Act {
        void on(WideFractions x);
    }

    /** The halves of register 0, of register 1 and so on. */
    private static WideFractions with(long... halves) {
        WideFractions x = new WideFractions();
        for (int i = 0; i + 1 < halves.length; i += 2) {
            x.set(i / 2, halves[i], halves[i + 1]);
        }
        return x;
    }

    private static void holds(WideFractions x, int register, long high, long low) {
        is(high, x.half(register, true));
        is(low, x.half(register, false));
    }

    private static void written(WideFractions x, int register, String due) {
        is(due.length(), x.digits(register));
        for (int i = 0; i < due.length(); i++) {
            is(due.charAt(i) - '0', x.digit(i));
        }
        for (int i = due.length(); i <= 40; i++) {
            is(WideFractions.NONE, x.digit(i));
        }
    }

    /** The call throws this very class, and every register and digit is as before; register 4 is 0. */
    private static void refused(String exception, Act call) {
        WideFractions x = with(ONES, ONES - 4, 1L, 1L, 0L, 77L, TOP, 0L, 0L, 0L, TENTH, TENTH_LOW, 0L, ONES, 0L, 1L);
        x.digits(5);
        String before = state(x);
        is(exception, got(x, call));
        is(before, state(x));
    }

    /** A machine's own exception, of a class below the one that is due, must not pass for it. */
    private static String got(WideFractions x, Act call) {
        try {
            call.on(x);
            return "no exception";
        } catch (RuntimeException e) {
            return e.getClass().getSimpleName();
        }
    }

    private static String state(WideFractions x) {
        StringBuilder told = new StringBuilder();
        for (int r = 0; r <= 7; r++) {
            told.append(x.half(r, true)).append(':').append(x.half(r, false)).append(' ');
        }
        for (int i = -1; i <= 40; i++) {
            told.append(x.digit(i)).append(' ');
        }
        return told.toString();
    }

    private static void is(Object due, Object got) {
        if (due.equals(got)) {
            return;
        }
        wrong++;
        StackTraceElement[] calls = new Throwable().getStackTrace();
        StringBuilder lines = new StringBuilder();
        for (int i = 1; i < calls.length - 1; i++) {
            lines.append(' ').append(calls[i].getMethodName()).append(':').append(calls[i].getLineNumber());
        }
        System.out.println(sentence + ": due " + due + ", got " + got + ", at" + lines);
    }
}
