import java.math.BigInteger;
import java.util.ArrayList;
import java.util.List;
import java.util.Random;

/** Each promise of the document by itself and in long mixed runs, against BigInteger. */
public final class WideFractionsPromises {
    private static final BigInteger ONE = BigInteger.ONE;
    private static final BigInteger LIMIT = ONE.shiftLeft(128);
    private static final BigInteger HALF_LIMIT = ONE.shiftLeft(64);
    private static final int[] NO_REGISTERS = {-1, 8, 9, 64, Integer.MIN_VALUE, Integer.MAX_VALUE};
    private static final List<BigInteger> EDGES = edges();

    private static int wrong = 0;

    public static void main(String[] args) {
        newObject();
        setAndHalf();
        sumsDifferencesAndOrder();
        products();
        quotients();
        roots();
        shifts();
        jams();
        zeros();
        digitsOfNumbers();
        digitsWrittenLast();
        nextDigits();
        everyChoiceOfRegisters();
        wrongRegisters();
        sameResults();
        divisorZero();
        wrongDistancesAndDigits();
        whichExceptionComesFirst();
        mixedRuns();
        System.out.println(wrong == 0 ? "all promises hold" : wrong + " answers are not as due");
        if (wrong != 0) {
            System.exit(1);
        }
    }

    /** The program and what the document says it holds, side by side; every call is made on both. */
    private static final class Twin {
        final WideFractions program = new WideFractions();
        final BigInteger[] due = new BigInteger[8];
        String dueDigits = "";
        final StringBuilder told = new StringBuilder();

        Twin(BigInteger... values) {
            for (int r = 0; r < due.length; r++) {
                due[r] = BigInteger.ZERO;
            }
            for (int r = 0; r < values.length; r++) {
                set(r, values[r]);
            }
        }

        private static boolean isRegister(int... registers) {
            for (int r : registers) {
                if (r < 0 || r > 7) {
                    return false;
                }
            }
            return true;
        }

        void set(int register, BigInteger value) {
            Object want = isRegister(register) ? "nothing" : "IndexOutOfBoundsException";
            same("set", want, () -> program.set(register, value.shiftRight(64).longValue(), value.longValue()),
                    register, value);
            if (isRegister(register)) {
                due[register] = value;
            }
        }

        void half(int register, boolean high) {
            Object want = "IndexOutOfBoundsException";
            if (isRegister(register)) {
                want = high ? due[register].shiftRight(64).longValue() : due[register].longValue();
            }
            same("half", want, () -> program.half(register, high), register, high);
        }

        void add(int a, int b, int to) {
            if (!isRegister(a, b, to)) {
                same("add", "IndexOutOfBoundsException", () -> program.add(a, b, to), a, b, to);
                return;
            }
            BigInteger sum = due[a].add(due[b]);
            same("add", sum.compareTo(LIMIT) >= 0, () -> program.add(a, b, to), a, b, to);
            due[to] = sum.mod(LIMIT);
        }

        void subtract(int a, int b, int to) {
            if (!isRegister(a, b, to)) {
                same("subtract", "IndexOutOfBoundsException", () -> program.subtract(a, b, to), a, b, to);
                return;
            }
            BigInteger difference = due[a].subtract(due[b]);
            same("subtract", difference.signum() < 0, () -> program.subtract(a, b, to), a, b, to);
            due[to] = difference.mod(LIMIT);
        }

        void multiply(int a, int b, int over, int to) {
            Object want = !isRegister(a, b, over, to) ? "IndexOutOfBoundsException"
                    : over == to ? "IllegalArgumentException" : "nothing";
            same("multiply", want, () -> program.multiply(a, b, over, to), a, b, over, to);
            if (want.equals("nothing")) {
                BigInteger product = due[a].multiply(due[b]);
                due[over] = product.shiftRight(128);
                due[to] = product.mod(LIMIT);
            }
        }

        void divide(int a, int b, int to, int rest) {
            Object want = !isRegister(a, b, to, rest) ? "IndexOutOfBoundsException"
                    : to == rest ? "IllegalArgumentException"
                    : due[b].signum() == 0 ? "ArithmeticException" : "nothing";
            same("divide", want, () -> program.divide(a, b, to, rest), a, b, to, rest);
            if (want.equals("nothing")) {
                BigInteger[] both = due[a].divideAndRemainder(due[b]);
                due[to] = both[0];
                due[rest] = both[1];
            }
        }

        void root(int a, int to, int rest) {
            Object want = !isRegister(a, to, rest) ? "IndexOutOfBoundsException"
                    : to == rest ? "IllegalArgumentException" : "nothing";
            same("root", want, () -> program.root(a, to, rest), a, to, rest);
            if (want.equals("nothing")) {
                BigInteger[] both = due[a].sqrtAndRemainder();
                due[to] = both[0];
                due[rest] = both[1];
            }
        }

        void shift(int a, int n, int to) {
            if (!isRegister(a, to)) {
                same("shift", "IndexOutOfBoundsException", () -> program.shift(a, n, to), a, n, to);
                return;
            }
            BigInteger moved = n >= 0 ? up(due[a], n) : down(due[a], -(long) n);
            BigInteger back = n >= 0 ? moved.shiftRight(Math.min(n, 128)) : up(moved, -(long) n);
            same("shift", !back.equals(due[a]), () -> program.shift(a, n, to), a, n, to);
            due[to] = moved;
        }

        void jam(int a, int n, int to) {
            Object want = !isRegister(a, to) ? "IndexOutOfBoundsException"
                    : n < 0 ? "IllegalArgumentException" : "nothing";
            same("jam", want, () -> program.jam(a, n, to), a, n, to);
            if (want.equals("nothing")) {
                BigInteger moved = down(due[a], n);
                due[to] = up(moved, n).equals(due[a]) ? moved : moved.setBit(0);
            }
        }

        void zeros(int register) {
            Object want = isRegister(register) ? 128 - due[register].bitLength() : "IndexOutOfBoundsException";
            same("zeros", want, () -> program.zeros(register), register);
        }

        void compare(int a, int b) {
            Object want = isRegister(a, b) ? due[a].compareTo(due[b]) : "IndexOutOfBoundsException";
            same("compare", want, () -> program.compare(a, b), a, b);
        }

        void digits(int register) {
            if (!isRegister(register)) {
                same("digits", "IndexOutOfBoundsException", () -> program.digits(register), register);
                return;
            }
            dueDigits = due[register].toString();
            same("digits", dueDigits.length(), () -> program.digits(register), register);
        }

        void digit(int i) {
            Object want = i >= 0 && i < dueDigits.length() ? dueDigits.charAt(i) - '0' : -1;
            same("digit", want, () -> program.digit(i), i);
        }

        void next(int register, int d) {
            if (!isRegister(register)) {
                same("next", "IndexOutOfBoundsException", () -> program.next(register, d), register, d);
                return;
            }
            if (d < 0 || d > 9) {
                same("next", "IllegalArgumentException", () -> program.next(register, d), register, d);
                return;
            }
            BigInteger longer = due[register].multiply(BigInteger.TEN).add(BigInteger.valueOf(d));
            boolean fits = longer.compareTo(LIMIT) < 0;
            same("next", fits, () -> program.next(register, d), register, d);
            if (fits) {
                due[register] = longer;
            }
        }

        /** 16 calls. */
        void registersAreDue() {
            for (int r = 0; r < 8; r++) {
                half(r, true);
                half(r, false);
            }
        }

        /** 45 calls. */
        void digitsAreDue() {
            for (int i = -2; i < 41; i++) {
                digit(i);
            }
            digit(Integer.MIN_VALUE);
            digit(Integer.MAX_VALUE);
        }

        private void same(String name, Object want, Answer call, Object... arguments) {
            String row = name + List.of(arguments);
            same(row, want, got(call));
        }

        private void same(String name, Object want, Act call, Object... arguments) {
            String row = name + List.of(arguments);
            same(row, want, got(() -> {
                call.make();
                return "nothing";
            }));
        }

        private void same(String row, Object want, Object got) {
            told.append("  ").append(row).append(" -> ").append(got).append('\n');
            if (!want.equals(got)) {
                wrong++;
                if (wrong <= 20) {
                    System.out.println("due is " + want + " in the last row of:\n" + told);
                }
            }
        }
    }

    private interface Answer {
        Object make();
    }

    private interface Act {
        void make();
    }

    /** The exact class is told: a machine's own exception must not pass for the one that the document names. */
    private static Object got(Answer call) {
        try {
            return call.make();
        } catch (RuntimeException e) {
            return e.getClass().getSimpleName();
        }
    }

    private static BigInteger up(BigInteger value, long n) {
        return n >= 128 ? BigInteger.ZERO : value.shiftLeft((int) n).mod(LIMIT);
    }

    private static BigInteger down(BigInteger value, long n) {
        return n >= 128 ? BigInteger.ZERO : value.shiftRight((int) n);
    }

    private static List<BigInteger> edges() {
        List<BigInteger> all = new ArrayList<>();
        for (int bit : new int[] {0, 1, 2, 31, 32, 33, 62, 63, 64, 65, 95, 96, 97, 126, 127, 128}) {
            addAround(all, ONE.shiftLeft(bit));
        }
        for (int power : new int[] {1, 9, 18, 19, 20, 37, 38}) {
            addAround(all, BigInteger.TEN.pow(power));
        }
        addAround(all, LIMIT.divide(BigInteger.TEN));
        addAround(all, HALF_LIMIT.subtract(ONE).pow(2));
        addAround(all, ONE.shiftLeft(32).subtract(ONE).shiftLeft(64));
        addAround(all, HALF_LIMIT.subtract(ONE).shiftLeft(64));
        addAround(all, LIMIT.divide(BigInteger.valueOf(3)));
        // The product of the two just below these carries through a half that is all ones, which chance never hits.
        addAround(all, ONE.shiftLeft(127).add(ONE.shiftLeft(64)));
        addAround(all, ONE.shiftLeft(127).add(ONE.shiftLeft(65)));
        return all;
    }

    private static void addAround(List<BigInteger> all, BigInteger middle) {
        for (int by = -1; by <= 1; by++) {
            BigInteger value = middle.add(BigInteger.valueOf(by));
            if (value.signum() >= 0 && value.compareTo(LIMIT) < 0 && !all.contains(value)) {
                all.add(value);
            }
        }
    }

    private static BigInteger any(Random random) {
        if (random.nextInt(3) == 0) {
            return EDGES.get(random.nextInt(EDGES.size()));
        }
        BigInteger value = new BigInteger(1 + random.nextInt(128), random);
        return random.nextInt(3) == 0 ? up(value, random.nextInt(128)) : value;
    }

    private static List<BigInteger> manyNumbers(int seed) {
        List<BigInteger> all = new ArrayList<>(EDGES);
        Random random = new Random(seed);
        for (int i = 0; i < 3000; i++) {
            all.add(any(random));
        }
        return all;
    }

    private interface PairTest {
        void test(BigInteger x, BigInteger y);
    }

    private static void forManyPairs(int seed, PairTest pairTest) {
        for (BigInteger x : EDGES) {
            for (BigInteger y : EDGES) {
                pairTest.test(x, y);
            }
        }
        Random random = new Random(seed);
        for (int i = 0; i < 5000; i++) {
            pairTest.test(any(random), any(random));
        }
    }

    private static void newObject() {
        Twin twin = new Twin();
        twin.registersAreDue();
        twin.digitsAreDue();
        Twin other = new Twin();
        twin.set(0, LIMIT.subtract(ONE));
        twin.digits(0);
        other.registersAreDue();
        other.digitsAreDue();
    }

    private static void setAndHalf() {
        for (BigInteger value : EDGES) {
            for (int r = 0; r < 8; r++) {
                Twin twin = new Twin();
                twin.set(r, value);
                twin.registersAreDue();
                twin.set(r, LIMIT.subtract(ONE).subtract(value));
                twin.registersAreDue();
            }
        }
    }

    private static void sumsDifferencesAndOrder() {
        forManyPairs(1, (x, y) -> {
            Twin twin = new Twin(x, y);
            twin.add(0, 1, 2);
            twin.subtract(0, 1, 3);
            twin.compare(0, 1);
            twin.compare(1, 0);
            twin.compare(0, 0);
            twin.registersAreDue();
        });
    }

    private static void products() {
        forManyPairs(2, (x, y) -> {
            Twin twin = new Twin(x, y);
            twin.multiply(0, 1, 2, 3);
            twin.registersAreDue();
        });
    }

    private static void quotients() {
        forManyPairs(3, (x, y) -> {
            Twin twin = new Twin(x, y);
            twin.divide(0, 1, 2, 3);
            twin.registersAreDue();
        });
    }

    private static void roots() {
        for (BigInteger value : manyNumbers(4)) {
            Twin twin = new Twin(value);
            twin.root(0, 1, 2);
            twin.registersAreDue();
        }
        Random random = new Random(4);
        for (int i = 0; i < 2000; i++) {
            List<BigInteger> close = new ArrayList<>();
            addAround(close, new BigInteger(1 + random.nextInt(64), random).pow(2));
            for (BigInteger value : close) {
                Twin twin = new Twin(value);
                twin.root(0, 1, 2);
                twin.registersAreDue();
            }
        }
    }

    private static final int[] FAR = {191, 192, 193, 255, 256, 257, 500, 1 << 20, Integer.MAX_VALUE - 1, Integer.MAX_VALUE};

    private static void shifts() {
        for (BigInteger value : EDGES) {
            for (int n = -130; n <= 130; n++) {
                shifted(value, n);
            }
            for (int n : FAR) {
                shifted(value, n);
                shifted(value, -n);
            }
            shifted(value, Integer.MIN_VALUE);
            shifted(value, Integer.MIN_VALUE + 64);
        }
    }

    private static void shifted(BigInteger value, int n) {
        Twin twin = new Twin(value);
        twin.shift(0, n, 1);
        twin.shift(0, n, 0);
        twin.registersAreDue();
    }

    private static void jams() {
        for (BigInteger value : EDGES) {
            for (int n = 0; n <= 130; n++) {
                jammed(value, n);
            }
            for (int n : FAR) {
                jammed(value, n);
            }
        }
    }

    private static void jammed(BigInteger value, int n) {
        Twin twin = new Twin(value);
        twin.jam(0, n, 1);
        twin.jam(0, n, 0);
        twin.registersAreDue();
    }

    private static void zeros() {
        for (BigInteger value : manyNumbers(5)) {
            new Twin(value).zeros(0);
        }
        for (int bit = 0; bit < 128; bit++) {
            new Twin(ONE.shiftLeft(bit)).zeros(0);
        }
    }

    private static void digitsOfNumbers() {
        List<BigInteger> values = manyNumbers(6);
        for (int power = 0; power <= 38; power++) {
            addAround(values, BigInteger.TEN.pow(power));
        }
        for (BigInteger value : values) {
            Twin twin = new Twin(value);
            twin.digits(0);
            twin.digitsAreDue();
            twin.registersAreDue();
        }
    }

    private static void digitsWrittenLast() {
        Twin twin = new Twin(LIMIT.subtract(ONE), BigInteger.ZERO, BigInteger.valueOf(907));
        for (int register : new int[] {0, 1, 2, 3, 2}) {
            twin.digits(register);
            twin.digitsAreDue();
        }
        twin.set(2, ONE);
        twin.next(2, 5);
        twin.digits(8);
        twin.digits(-1);
        twin.digitsAreDue();
    }

    private static void nextDigits() {
        for (BigInteger value : manyNumbers(7)) {
            for (int d = 0; d <= 9; d++) {
                Twin twin = new Twin(ONE, value);
                twin.next(1, d);
                twin.registersAreDue();
            }
        }
        Twin reader = new Twin();
        for (char c : LIMIT.subtract(ONE).toString().toCharArray()) {
            reader.next(4, c - '0');
        }
        reader.registersAreDue();
        Twin passing = new Twin();
        for (char c : LIMIT.toString().toCharArray()) {
            passing.next(4, c - '0');
        }
        passing.registersAreDue();
    }

    private static Twin filled() {
        Twin twin = new Twin(LIMIT.subtract(BigInteger.valueOf(5)), HALF_LIMIT.add(ONE), BigInteger.valueOf(77),
                ONE.shiftLeft(127), BigInteger.ZERO, BigInteger.TEN.pow(38), HALF_LIMIT.subtract(ONE), ONE);
        twin.digits(5);
        return twin;
    }

    private static void everyChoiceOfRegisters() {
        for (int code = 0; code < 8 * 8 * 8 * 8; code++) {
            int a = code >> 9;
            int b = code >> 6 & 7;
            int c = code >> 3 & 7;
            int d = code & 7;
            oneCall(twin -> twin.multiply(a, b, c, d));
            oneCall(twin -> twin.divide(a, b, c, d));
            if (d == 0) {
                oneCall(twin -> twin.add(a, b, c));
                oneCall(twin -> twin.subtract(a, b, c));
                oneCall(twin -> twin.root(a, b, c));
                oneCall(twin -> twin.compare(a, b));
                oneCall(twin -> twin.shift(a, 3, b));
                oneCall(twin -> twin.shift(a, -3, b));
                oneCall(twin -> twin.jam(a, 66, b));
                oneCall(twin -> twin.zeros(a));
                oneCall(twin -> twin.digits(a));
                oneCall(twin -> twin.next(a, 4));
            }
        }
    }

    private interface Call {
        void on(Twin twin);
    }

    private static void oneCall(Call call) {
        Twin twin = filled();
        call.on(twin);
        twin.registersAreDue();
        twin.digitsAreDue();
    }

    private static void wrongRegisters() {
        for (int bad : NO_REGISTERS) {
            oneCall(twin -> twin.set(bad, BigInteger.TEN));
            oneCall(twin -> twin.half(bad, true));
            oneCall(twin -> twin.half(bad, false));
            oneCall(twin -> twin.zeros(bad));
            oneCall(twin -> twin.digits(bad));
            oneCall(twin -> twin.next(bad, 3));
            for (int place = 0; place < 4; place++) {
                int a = place == 0 ? bad : 0;
                int b = place == 1 ? bad : 1;
                int c = place == 2 ? bad : 2;
                int d = place == 3 ? bad : 3;
                oneCall(twin -> twin.multiply(a, b, c, d));
                oneCall(twin -> twin.divide(a, b, c, d));
                oneCall(twin -> twin.add(a, b, c));
                oneCall(twin -> twin.subtract(a, b, c));
                oneCall(twin -> twin.root(a, b, c));
                oneCall(twin -> twin.compare(a, b));
                oneCall(twin -> twin.shift(a, 5, b));
                oneCall(twin -> twin.shift(a, -5, b));
                oneCall(twin -> twin.jam(a, 5, b));
            }
        }
    }

    private static void sameResults() {
        for (int r = 0; r < 8; r++) {
            int both = r;
            oneCall(twin -> twin.multiply(0, 1, both, both));
            oneCall(twin -> twin.divide(0, 1, both, both));
            oneCall(twin -> twin.root(0, both, both));
        }
    }

    private static void divisorZero() {
        for (int a = 0; a < 8; a++) {
            int whole = a;
            oneCall(twin -> twin.divide(whole, 4, 1, 2));
            oneCall(twin -> twin.divide(whole, 4, 4, 2));
        }
    }

    private static void wrongDistancesAndDigits() {
        for (int n : new int[] {-1, -2, -64, -128, Integer.MIN_VALUE}) {
            oneCall(twin -> twin.jam(0, n, 1));
            oneCall(twin -> twin.jam(4, n, 4));
        }
        for (int d : new int[] {-1, 10, 11, 48, Integer.MIN_VALUE, Integer.MAX_VALUE}) {
            oneCall(twin -> twin.next(2, d));
            oneCall(twin -> twin.next(0, d));
        }
    }

    private static void whichExceptionComesFirst() {
        for (int bad : NO_REGISTERS) {
            oneCall(twin -> twin.multiply(0, 1, bad, bad));
            oneCall(twin -> twin.multiply(bad, 1, 2, 2));
            oneCall(twin -> twin.multiply(0, bad, 2, 2));
            oneCall(twin -> twin.divide(0, 1, bad, bad));
            oneCall(twin -> twin.divide(bad, 4, 2, 2));
            oneCall(twin -> twin.divide(0, bad, 2, 2));
            oneCall(twin -> twin.divide(0, 4, bad, 2));
            oneCall(twin -> twin.divide(0, 4, 2, bad));
            oneCall(twin -> twin.divide(bad, 4, 1, 2));
            oneCall(twin -> twin.root(0, bad, bad));
            oneCall(twin -> twin.root(bad, 2, 2));
            oneCall(twin -> twin.jam(bad, -1, 0));
            oneCall(twin -> twin.jam(0, -1, bad));
            oneCall(twin -> twin.next(bad, 10));
            oneCall(twin -> twin.next(bad, -1));
        }
        oneCall(twin -> twin.divide(0, 4, 2, 2));
        oneCall(twin -> twin.divide(0, 4, 4, 4));
    }

    private static void mixedRuns() {
        Random random = new Random(8);
        for (int run = 0; run < 2000; run++) {
            Twin twin = new Twin();
            for (int call = 0; call < 300; call++) {
                anyCall(twin, random);
            }
            twin.registersAreDue();
            twin.digitsAreDue();
        }
    }

    private static int register(Random random) {
        return random.nextInt(60) == 0 ? NO_REGISTERS[random.nextInt(NO_REGISTERS.length)] : random.nextInt(8);
    }

    private static void anyCall(Twin twin, Random random) {
        int a = register(random);
        int b = register(random);
        int c = register(random);
        int d = register(random);
        switch (random.nextInt(16)) {
            case 0, 1 -> twin.set(a, any(random));
            case 2 -> twin.half(a, random.nextBoolean());
            case 3 -> twin.add(a, b, c);
            case 4 -> twin.subtract(a, b, c);
            case 5 -> twin.multiply(a, b, c, d);
            case 6 -> twin.divide(a, b, c, d);
            case 7 -> twin.root(a, b, c);
            case 8 -> twin.shift(a, random.nextInt(280) - 140, b);
            case 9 -> twin.jam(a, random.nextInt(150) - 5, b);
            case 10 -> twin.zeros(a);
            case 11 -> twin.compare(a, b);
            case 12 -> twin.digits(a);
            case 13 -> twin.digit(random.nextInt(44) - 2);
            default -> twin.next(a, random.nextInt(12) - 1);
        }
    }
}
