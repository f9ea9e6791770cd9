/** Exact fractions of wide parts, rows of equations over them, rests by primes, and decimals. */
public final class FractionRows {
    public static final int BAD = -1, ZERO = -2, GREW = -3, FULL = -4, STATE = -5, NONE = -6;

    private static final int MOST_NUMBERS = 40;
    private static final int MOST_ROWS = 5;
    private static final int NO_SUCH_NUMBERS = -2;

    private final int n;
    private final Arithmetic arithmetic;
    private final Fraction[] numbers;
    private final Fraction[] entries;
    private final Elimination elimination;
    private final Determinants determinants;
    private final Solved solved;
    private final Joint joint;
    private final Text text;
    private int numberCount;
    private int grewCount;

    public FractionRows(int n) {
        int rows = Math.max(1, Math.min(MOST_ROWS, n));
        Arithmetic shared = new Arithmetic();
        this.n = rows;
        arithmetic = shared;
        numbers = Fraction.zeros(MOST_NUMBERS);
        entries = Fraction.zeros(rows * (rows + 1));
        elimination = new Elimination(rows, shared);
        determinants = new Determinants(rows, shared);
        solved = new Solved(rows, shared);
        joint = new Joint(shared);
        text = new Text(shared);
    }

    // ---- numbers

    public int value(long u, long v) {
        if (v == 0) {
            return ZERO;
        }
        if (isFull()) {
            return FULL;
        }
        arithmetic.setRatio(u, v, numbers[numberCount]);
        return keep(true);
    }

    public int act(int op, int a, int b) {
        if (op < 0 || op > 3 || !isNumber(a) || !isNumber(b)) {
            return BAD;
        }
        if (isFull()) {
            return FULL;
        }
        if (op == 3 && numbers[b].isZero()) {
            return ZERO;
        }
        Fraction to = numbers[numberCount];
        if (op < 2) {
            return keep(arithmetic.add(numbers[a], numbers[b], op == 1, to));
        }
        return keep(arithmetic.multiply(numbers[a], numbers[b], op == 3, to));
    }

    public int quotient(int a, int b) throws ArithmeticException {
        if (!isNumber(a) || !isNumber(b)) {
            return BAD;
        }
        if (isFull()) {
            return FULL;
        }
        if (numbers[b].isZero()) {
            throw new ArithmeticException("the divisor is 0");
        }
        return keep(arithmetic.multiply(numbers[a], numbers[b], true, numbers[numberCount]));
    }

    public int drop() {
        if (numberCount == 0) {
            return STATE;
        }
        numberCount--;
        return numberCount;
    }

    public int compare(int a, int b) {
        if (!isNumber(a) || !isNumber(b)) {
            return NO_SUCH_NUMBERS;
        }
        return arithmetic.order(numbers[a], numbers[b]);
    }

    public int about(int a, int what) {
        if (!isNumber(a)) {
            return BAD;
        }
        Fraction number = numbers[a];
        switch (what) {
            case 0:
                return number.below ? 1 : 0;
            case 1:
                return number.u.length;
            case 2:
                return number.v.length;
            case 3:
                return number.size();
            default:
                return BAD;
        }
    }

    public int limb(int a, int part, int k) throws IndexOutOfBoundsException {
        if (!isNumber(a)) {
            throw new IndexOutOfBoundsException("no such number");
        }
        if (part != 0 && part != 1) {
            throw new IndexOutOfBoundsException("no such part");
        }
        Whole whole = part == 0 ? numbers[a].u : numbers[a].v;
        if (k < 0 || k >= whole.length) {
            throw new IndexOutOfBoundsException("no such limb");
        }
        return whole.limbs[k];
    }

    // ---- rows

    public int entry(int i, int j, long u, long v) {
        if (!isEntry(i, j)) {
            return BAD;
        }
        if (v == 0) {
            return ZERO;
        }
        arithmetic.setRatio(u, v, entryAt(i, j));
        return 1;
    }

    public int put(int i, int j, int a) {
        if (!isEntry(i, j) || !isNumber(a)) {
            return BAD;
        }
        entryAt(i, j).copy(numbers[a]);
        return 1;
    }

    public int take(int i, int j) {
        if (!isEntry(i, j)) {
            return BAD;
        }
        return keepCopy(entryAt(i, j));
    }

    public int solve(int way) {
        if (way != 0 && way != 1) {
            return BAD;
        }
        solved.forget();
        if (!elimination.run(entries, way, n + 1) || !solved.fill(elimination)) {
            return grew();
        }
        return solved.rank;
    }

    public int answers() {
        if (!solved.there) {
            return STATE;
        }
        if (!solved.hasAnswers) {
            return 0;
        }
        return solved.rank == n ? 1 : 2;
    }

    public int unknown(int j) {
        if (!solved.tellsUnknowns()) {
            return STATE;
        }
        if (j < 0 || j >= n) {
            return BAD;
        }
        return keepCopy(solved.unknowns[j]);
    }

    public int pivot(int k, int what) {
        if (!solved.there) {
            return STATE;
        }
        if (k < 0 || k >= solved.rank) {
            return BAD;
        }
        switch (what) {
            case 0:
                return solved.columns[k];
            case 1:
                return solved.rows[k];
            case 2:
                return solved.sizes[k];
            default:
                return BAD;
        }
    }

    public int holds(int i) {
        if (!solved.tellsUnknowns()) {
            return STATE;
        }
        if (i < 0 || i >= n) {
            return BAD;
        }
        if (!solved.addUp(entries, i)) {
            return grew();
        }
        return arithmetic.order(solved.sum, entryAt(i, n)) == 0 ? 1 : 0;
    }

    public int determinant(int way) {
        if (way < 0 || way > 2) {
            return BAD;
        }
        if (isFull()) {
            return FULL;
        }
        Fraction to = numbers[numberCount];
        if (way == 2) {
            return keep(determinants.addOrders(entries, to));
        }
        return keep(elimination.run(entries, way, n) && determinants.multiplyPivots(elimination, to));
    }

    // ---- rests

    public int rest(int a, int p) {
        if (!isNumber(a) || !Primes.isPrime(p)) {
            return BAD;
        }
        int lower = numbers[a].v.restBy(p);
        if (lower == 0) {
            return ZERO;
        }
        int upper = numbers[a].u.restBy(p);
        int size = (int) (upper * Primes.inverse(lower, p) % p);
        return numbers[a].below && size != 0 ? p - size : size;
    }

    public int meet(int p, int r) {
        if (!Primes.isPrime(p) || r < 0 || r >= p) {
            return BAD;
        }
        if (joint.has(p)) {
            return STATE;
        }
        return joint.join(p, r) ? joint.primes : grew();
    }

    public int joined(int what) {
        if (what != 0 && what != 1) {
            return BAD;
        }
        if (isFull()) {
            return FULL;
        }
        numbers[numberCount].setWhole(what == 0 ? joint.number : joint.modulus);
        return keep(true);
    }

    public int recover() {
        if (isFull()) {
            return FULL;
        }
        return joint.tell(numbers[numberCount]) ? keep(true) : NONE;
    }

    public int part() {
        int primes = joint.primes;
        joint.forget();
        return primes;
    }

    // ---- decimals

    public int decimals(int a, int digits, boolean up) {
        if (!isNumber(a) || digits < 0 || digits > Text.MOST_DIGITS) {
            return BAD;
        }
        text.write(numbers[a], digits, up);
        return text.length;
    }

    public int sign(int i) {
        if (i < 0 || i >= text.length) {
            return BAD;
        }
        return text.backwards[text.length - 1 - i];
    }

    public int count(int what) {
        switch (what) {
            case 0:
                return numberCount;
            case 1:
                return joint.primes;
            case 2:
                return n;
            case 3:
                return grewCount;
            default:
                return BAD;
        }
    }

    public int clear() {
        int had = numberCount;
        numberCount = 0;
        for (int i = 0; i < entries.length; i++) {
            entries[i].setZero();
        }
        solved.forget();
        joint.forget();
        return had;
    }

    private boolean isNumber(int a) {
        return a >= 0 && a < numberCount;
    }

    private boolean isFull() {
        return numberCount >= MOST_NUMBERS;
    }

    private boolean isEntry(int i, int j) {
        return i >= 0 && i < n && j >= 0 && j <= n;
    }

    private Fraction entryAt(int i, int j) {
        return entries[i * (n + 1) + j];
    }

    /** What was made in the place behind the last NUMBER becomes one, unless it GREW. */
    private int keep(boolean fits) {
        if (!fits) {
            return grew();
        }
        numberCount++;
        return numberCount - 1;
    }

    private int keepCopy(Fraction fraction) {
        if (isFull()) {
            return FULL;
        }
        numbers[numberCount].copy(fraction);
        return keep(true);
    }

    private int grew() {
        grewCount++;
        return GREW;
    }

    /** A whole number, 0 or above. Its limbs from length on are all 0, so that they may be read. */
    private static final class Whole {
        /** A sum of two products of WIDE numbers has 13 limbs; a division wants two more. */
        static final int ROOM = 16;
        static final int WIDE_LIMBS = 6;
        static final long LOW = 0xFFFFFFFFL;

        final int[] limbs = new int[ROOM];
        int length;

        void copy(Whole from) {
            System.arraycopy(from.limbs, 0, limbs, 0, ROOM);
            length = from.length;
        }

        /** The 64 bits are read without a sign. */
        void setBits(long bits) {
            for (int i = 2; i < length; i++) {
                limbs[i] = 0;
            }
            limbs[0] = (int) bits;
            limbs[1] = (int) (bits >>> 32);
            length = limbs[1] != 0 ? 2 : limbs[0] != 0 ? 1 : 0;
        }

        boolean isZero() {
            return length == 0;
        }

        boolean isOne() {
            return length == 1 && limbs[0] == 1;
        }

        boolean isWide() {
            return length <= WIDE_LIMBS;
        }

        boolean fitsLong() {
            return length < 2 || (length == 2 && limbs[1] >= 0);
        }

        long toLong() {
            return (limbs[1] & LOW) << 32 | (limbs[0] & LOW);
        }

        int bits() {
            return length == 0 ? 0 : 32 * length - Integer.numberOfLeadingZeros(limbs[length - 1]);
        }

        /** -1, 0, 1: this is below the other, the same, above. */
        int against(Whole other) {
            if (length != other.length) {
                return length < other.length ? -1 : 1;
            }
            for (int i = length - 1; i >= 0; i--) {
                if (limbs[i] != other.limbs[i]) {
                    return (limbs[i] & LOW) < (other.limbs[i] & LOW) ? -1 : 1;
                }
            }
            return 0;
        }

        void increase(Whole other) {
            int end = Math.max(length, other.length);
            long carry = 0;
            for (int i = 0; i < end; i++) {
                carry += (limbs[i] & LOW) + (other.limbs[i] & LOW);
                limbs[i] = (int) carry;
                carry >>>= 32;
            }
            length = end;
            append((int) carry);
        }

        /** The other is not above this. */
        void decrease(Whole other) {
            long borrow = 0;
            for (int i = 0; i < length; i++) {
                borrow += (limbs[i] & LOW) - (other.limbs[i] & LOW);
                limbs[i] = (int) borrow;
                borrow >>= 32;
            }
            trim();
        }

        /** Neither factor is this object; no caller has more limbs in them than there is room. */
        void setProduct(Whole a, Whole b) {
            setBits(0);
            if (a.length + b.length > ROOM) {
                return;
            }
            for (int i = 0; i < a.length; i++) {
                long factor = a.limbs[i] & LOW;
                long carry = 0;
                for (int k = 0; k < b.length; k++) {
                    carry += factor * (b.limbs[k] & LOW) + (limbs[i + k] & LOW);
                    limbs[i + k] = (int) carry;
                    carry >>>= 32;
                }
                limbs[i + b.length] = (int) carry;
            }
            length = a.length + b.length;
            trim();
        }

        /** This becomes this times a factor that is 0 or above. */
        void scale(int factor) {
            long carry = 0;
            for (int i = 0; i < length; i++) {
                carry += factor * (limbs[i] & LOW);
                limbs[i] = (int) carry;
                carry >>>= 32;
            }
            append((int) carry);
            trim();
        }

        /** By 0 to 31 bits. */
        void shiftLeft(int shift) {
            long carry = 0;
            for (int i = 0; i < length; i++) {
                carry |= (limbs[i] & LOW) << shift;
                limbs[i] = (int) carry;
                carry >>>= 32;
            }
            if (carry != 0 && length < ROOM) {
                limbs[length] = (int) carry;
                length++;
            }
        }

        /** By 0 to 31 bits; it is for the caller to trim. */
        void shiftRight(int shift) {
            long above = 0;
            for (int i = length - 1; i >= 0; i--) {
                long own = limbs[i] & LOW;
                limbs[i] = (int) ((above << 32 | own) >>> shift);
                above = own;
            }
        }

        /** The rest by p, which is above 0. */
        int restBy(int p) {
            long rest = 0;
            for (int i = length - 1; i >= 0 && p > 0; i--) {
                rest = (rest << 32 | (limbs[i] & LOW)) % p;
            }
            return (int) rest;
        }

        /** This becomes the quotient by d, which is above 0; the rest is answered. */
        int shrinkBy(int d) {
            long rest = 0;
            for (int i = length - 1; i >= 0 && d > 0; i--) {
                rest = rest << 32 | (limbs[i] & LOW);
                limbs[i] = (int) (rest / d);
                rest %= d;
            }
            trim();
            return (int) rest;
        }

        /** From limb j on, so many times the divisor goes: whether less than 0 is left. */
        boolean takeTimes(long times, Whole divisor, int j) {
            long carry = 0;
            for (int i = 0; i < divisor.length; i++) {
                long product = times * (divisor.limbs[i] & LOW) + carry;
                long left = (limbs[j + i] & LOW) - (product & LOW);
                limbs[j + i] = (int) left;
                carry = (product >>> 32) + (left >>> 63);
            }
            long left = (limbs[j + divisor.length] & LOW) - carry;
            limbs[j + divisor.length] = (int) left;
            return left < 0;
        }

        /** From limb j on, the divisor comes back: whether that is still less than 0. */
        boolean giveBack(Whole divisor, int j) {
            long carry = 0;
            for (int i = 0; i < divisor.length; i++) {
                carry += (limbs[j + i] & LOW) + (divisor.limbs[i] & LOW);
                limbs[j + i] = (int) carry;
                carry >>>= 32;
            }
            carry += limbs[j + divisor.length] & LOW;
            limbs[j + divisor.length] = (int) carry;
            return carry >>> 32 == 0;
        }

        void trim() {
            while (length > 0 && limbs[length - 1] == 0) {
                length--;
            }
        }

        private void append(int limb) {
            if (limb != 0 && length < ROOM) {
                limbs[length] = limb;
                length++;
            }
        }
    }

    /** u / v in lowest terms, v above 0; u holds the size alone. */
    private static final class Fraction {
        final Whole u = new Whole();
        final Whole v = new Whole();
        boolean below;

        Fraction() {
            v.setBits(1);
        }

        static Fraction[] zeros(int length) {
            Fraction[] zeros = new Fraction[Math.max(0, length)];
            for (int i = 0; i < zeros.length; i++) {
                zeros[i] = new Fraction();
            }
            return zeros;
        }

        boolean isZero() {
            return u.isZero();
        }

        int size() {
            return u.bits() + v.bits();
        }

        void setZero() {
            below = false;
            u.setBits(0);
            v.setBits(1);
        }

        void setWhole(Whole whole) {
            below = false;
            u.copy(whole);
            v.setBits(1);
        }

        void copy(Fraction from) {
            set(from.below, from.u, from.v);
        }

        void set(boolean isBelow, Whole upper, Whole lower) {
            below = isBelow && !upper.isZero();
            u.copy(upper);
            v.copy(lower);
        }

        void negate() {
            below = !below && !u.isZero();
        }
    }

    /** Division, and what FRACTIONS do with one another, on whole numbers that are used again. */
    private static final class Arithmetic {
        /** Far above the 560 steps that numbers of 13 limbs can need. */
        static final int MOST_STEPS = 100000;

        private final Whole scaledDivisor = new Whole();
        private final Whole ratio = new Whole();
        private final Whole first = new Whole();
        private final Whole second = new Whole();
        private final Whole common = new Whole();
        private final Whole dividend = new Whole();
        private final Whole upper = new Whole();
        private final Whole lower = new Whole();
        private final Whole leftUpper = new Whole();
        private final Whole rightUpper = new Whole();
        private final Whole leftLower = new Whole();
        private final Whole rightLower = new Whole();

        /** What is divided becomes the rest; a divisor of 0 leaves it, and the quotient is 0. */
        void divide(Whole divided, Whole divisor, Whole to) {
            to.setBits(0);
            if (divisor.isZero() || divided.against(divisor) < 0) {
                return;
            }
            if (divided.fitsLong()) {
                long a = divided.toLong();
                long b = divisor.toLong();
                to.setBits(a / b);
                divided.setBits(a % b);
                return;
            }
            int shift = Integer.numberOfLeadingZeros(divisor.limbs[divisor.length - 1]);
            scaledDivisor.copy(divisor);
            scaledDivisor.shiftLeft(shift);
            divided.shiftLeft(shift);
            int top = Math.min(divided.length, Whole.ROOM - 1) - divisor.length;
            for (int j = top; j >= 0; j--) {
                long limb = guessLimb(divided, j);
                boolean isBelow = divided.takeTimes(limb, scaledDivisor, j);
                for (int turn = 0; turn < 2 && isBelow; turn++) {
                    limb--;
                    isBelow = divided.giveBack(scaledDivisor, j);
                }
                to.limbs[j] = (int) limb;
            }
            to.length = top + 1;
            to.trim();
            divided.shiftRight(shift);
            divided.trim();
        }

        /**
         * Limb j of a quotient by scaledDivisor, whose highest bit is set: so this guess from the
         * highest limbs is never too low, and too high by 2 at most.
         */
        private long guessLimb(Whole divided, int j) {
            int n = scaledDivisor.length;
            long high = divided.limbs[j + n] & Whole.LOW;
            long divisor = scaledDivisor.limbs[n - 1] & Whole.LOW;
            if (high >= divisor) {
                return Whole.LOW;
            }
            long pair = high << 32 | (divided.limbs[j + n - 1] & Whole.LOW);
            // The pair may fill all 64 bits: half of it is divided, then what that left out.
            long guess = ((pair >>> 1) / divisor) << 1;
            return pair - guess * divisor >= divisor ? guess + 1 : guess;
        }

        /** common becomes the greatest number that divides both. */
        void findCommon(Whole a, Whole b) {
            if (a.isOne() || b.isOne()) {
                common.setBits(1);
                return;
            }
            Whole big = first;
            Whole small = second;
            big.copy(a);
            small.copy(b);
            for (int step = 0; step < MOST_STEPS && !small.isZero(); step++) {
                if (big.fitsLong() && small.fitsLong()) {
                    common.setBits(commonOf(big.toLong(), small.toLong()));
                    return;
                }
                divide(big, small, ratio);
                Whole rest = big;
                big = small;
                small = rest;
            }
            common.copy(big);
        }

        private static long commonOf(long a, long b) {
            long big = a;
            long small = b;
            for (int step = 0; step < MOST_STEPS && small != 0; step++) {
                long rest = big % small;
                big = small;
                small = rest;
            }
            return big;
        }

        boolean haveNothingCommon(Whole a, Whole b) {
            findCommon(a, b);
            return common.isOne();
        }

        /** The whole number by common, which divides it. */
        private void cut(Whole whole, Whole to) {
            if (common.isOne()) {
                to.copy(whole);
                return;
            }
            dividend.copy(whole);
            divide(dividend, common, to);
        }

        void setRatio(long u, long v, Fraction to) {
            // The least long is its own abs, and right when it is read without a sign.
            upper.setBits(Math.abs(u));
            lower.setBits(Math.abs(v));
            findCommon(upper, lower);
            cut(upper, to.u);
            cut(lower, to.v);
            to.below = u != 0 && (u < 0) != (v < 0);
        }

        /** a plus b, or less it: whether that is WIDE; if not, nothing is set. */
        boolean add(Fraction a, Fraction b, boolean less, Fraction to) {
            findCommon(a.v, b.v);
            cut(a.v, leftLower);
            cut(b.v, rightLower);
            leftUpper.setProduct(a.u, rightLower);
            rightUpper.setProduct(b.u, leftLower);
            boolean isBelow = joinUppers(a.below, b.below != less);
            // Only what the lower parts shared can still be shared with the upper one.
            findCommon(upper, common);
            cut(b.v, rightLower);
            cut(upper, leftUpper);
            lower.setProduct(leftLower, rightLower);
            return setWide(isBelow, leftUpper, lower, to);
        }

        /** upper becomes the size of leftUpper and rightUpper together: whether it is below 0. */
        private boolean joinUppers(boolean leftBelow, boolean rightBelow) {
            if (leftBelow == rightBelow) {
                upper.copy(leftUpper);
                upper.increase(rightUpper);
                return leftBelow;
            }
            if (leftUpper.against(rightUpper) >= 0) {
                upper.copy(leftUpper);
                upper.decrease(rightUpper);
                return leftBelow;
            }
            upper.copy(rightUpper);
            upper.decrease(leftUpper);
            return rightBelow;
        }

        /** a times b, or by b, which is not 0 then: whether that is WIDE; if not, nothing is set. */
        boolean multiply(Fraction a, Fraction b, boolean by, Fraction to) {
            Whole bUpper = by ? b.v : b.u;
            Whole bLower = by ? b.u : b.v;
            findCommon(a.u, bLower);
            cut(a.u, leftUpper);
            cut(bLower, rightLower);
            findCommon(bUpper, a.v);
            cut(bUpper, rightUpper);
            cut(a.v, leftLower);
            upper.setProduct(leftUpper, rightUpper);
            lower.setProduct(leftLower, rightLower);
            return setWide(a.below != b.below, upper, lower, to);
        }

        private boolean setWide(boolean isBelow, Whole u, Whole v, Fraction to) {
            if (!u.isWide() || !v.isWide()) {
                return false;
            }
            to.set(isBelow, u, v);
            return true;
        }

        /** -1, 0, 1: a is below b, the same, above. */
        int order(Fraction a, Fraction b) {
            if (a.below != b.below) {
                return a.below ? -1 : 1;
            }
            leftUpper.setProduct(a.u, b.v);
            rightUpper.setProduct(b.u, a.v);
            return a.below ? rightUpper.against(leftUpper) : leftUpper.against(rightUpper);
        }
    }

    /** ELIMINATION on a copy of the ROWS; the rows stay where they are, their places change. */
    private static final class Elimination {
        private final int n;
        private final Arithmetic arithmetic;
        private final Fraction[] work;
        private final int[] rowAt;
        private final int[] columnOf;
        private final Fraction factor = new Fraction();
        private final Fraction product = new Fraction();
        private int rank;
        private boolean odd;

        Elimination(int n, Arithmetic arithmetic) {
            this.n = n;
            this.arithmetic = arithmetic;
            work = Fraction.zeros(n * (n + 1));
            rowAt = new int[n];
            columnOf = new int[n];
        }

        /** Of the ENTRIES before end; whether nothing GREW. */
        boolean run(Fraction[] rows, int way, int end) {
            begin(rows);
            for (int j = 0; j < n; j++) {
                int chosen = choose(j, way);
                if (chosen < 0) {
                    continue;
                }
                bring(chosen, j);
                for (int place = rank; place < n; place++) {
                    if (!at(place, j).isZero() && !clearColumn(place, j, end)) {
                        return false;
                    }
                }
            }
            return true;
        }

        private void begin(Fraction[] rows) {
            for (int i = 0; i < work.length && i < rows.length; i++) {
                work[i].copy(rows[i]);
            }
            for (int i = 0; i < n; i++) {
                rowAt[i] = i;
            }
            rank = 0;
            odd = false;
        }

        private Fraction at(int place, int k) {
            return work[rowAt[place] * (n + 1) + k];
        }

        Fraction pivotAt(int t) {
            return at(t, columnOf[t]);
        }

        /** The place of the next PIVOT in column j, -1 if the column is FREE. */
        private int choose(int j, int way) {
            int chosen = -1;
            for (int place = rank; place < n; place++) {
                if (!at(place, j).isZero()) {
                    if (way == 0) {
                        return place;
                    }
                    if (chosen < 0 || at(place, j).size() < at(chosen, j).size()) {
                        chosen = place;
                    }
                }
            }
            return chosen;
        }

        private void bring(int place, int j) {
            if (place != rank) {
                int row = rowAt[place];
                rowAt[place] = rowAt[rank];
                rowAt[rank] = row;
                odd = !odd;
            }
            columnOf[rank] = j;
            rank++;
        }

        /** The row of the last PIVOT is taken from one behind it so often that ENTRY j is 0. */
        private boolean clearColumn(int place, int j, int end) {
            int above = rank - 1;
            if (!arithmetic.multiply(at(place, j), at(above, j), true, factor)) {
                return false;
            }
            for (int k = j + 1; k < end; k++) {
                Fraction changed = at(place, k);
                if (!arithmetic.multiply(factor, at(above, k), false, product)
                        || !arithmetic.add(changed, product, true, changed)) {
                    return false;
                }
            }
            at(place, j).setZero();
            return true;
        }

        boolean hasAnswers() {
            for (int place = rank; place < n; place++) {
                if (!at(place, n).isZero()) {
                    return false;
                }
            }
            return true;
        }

        /** Whether nothing GREW. */
        boolean findUnknowns(Fraction[] unknowns) {
            for (int j = 0; j < n; j++) {
                unknowns[j].setZero();
            }
            for (int t = rank - 1; t >= 0; t--) {
                int column = columnOf[t];
                Fraction found = unknowns[column];
                found.copy(at(t, n));
                for (int k = column + 1; k < n; k++) {
                    if (!arithmetic.multiply(at(t, k), unknowns[k], false, product)
                            || !arithmetic.add(found, product, true, found)) {
                        return false;
                    }
                }
                if (!arithmetic.multiply(found, at(t, column), true, found)) {
                    return false;
                }
            }
            return true;
        }
    }

    /** What is SOLVED, apart from the ROWS, which may change. */
    private static final class Solved {
        private final int n;
        private final Arithmetic arithmetic;
        private final int[] columns;
        private final int[] rows;
        private final int[] sizes;
        private final Fraction[] unknowns;
        private final Fraction product = new Fraction();
        private final Fraction sum = new Fraction();
        private boolean there;
        private boolean hasAnswers;
        private int rank;

        Solved(int n, Arithmetic arithmetic) {
            this.n = n;
            this.arithmetic = arithmetic;
            columns = new int[n];
            rows = new int[n];
            sizes = new int[n];
            unknowns = Fraction.zeros(n);
        }

        void forget() {
            there = false;
        }

        /** Whether nothing GREW. */
        boolean fill(Elimination by) {
            rank = by.rank;
            for (int t = 0; t < rank; t++) {
                columns[t] = by.columnOf[t];
                rows[t] = by.rowAt[t];
                sizes[t] = by.pivotAt(t).size();
            }
            hasAnswers = by.hasAnswers();
            there = !hasAnswers || by.findUnknowns(unknowns);
            return there;
        }

        boolean tellsUnknowns() {
            return there && hasAnswers;
        }

        /** sum becomes what the ENTRIES of a ROW make of the unknowns; whether nothing GREW. */
        boolean addUp(Fraction[] entries, int row) {
            sum.setZero();
            for (int j = 0; j < n; j++) {
                Fraction entry = entries[row * (n + 1) + j];
                if (!arithmetic.multiply(entry, unknowns[j], false, product)
                        || !arithmetic.add(sum, product, false, sum)) {
                    return false;
                }
            }
            return true;
        }
    }

    /** DETERMINANTS, from the PIVOTS of an ELIMINATION or over all orders of the columns. */
    private static final class Determinants {
        private static final int MOST_ORDERS = 120;

        private final int n;
        private final Arithmetic arithmetic;
        private final int[] order;
        private final Fraction product = new Fraction();

        Determinants(int n, Arithmetic arithmetic) {
            this.n = n;
            this.arithmetic = arithmetic;
            order = new int[n];
        }

        /** Whether nothing GREW. */
        boolean multiplyPivots(Elimination by, Fraction to) {
            to.setZero();
            if (by.rank < n) {
                return true;
            }
            to.copy(by.pivotAt(0));
            for (int t = 1; t < n; t++) {
                if (!arithmetic.multiply(to, by.pivotAt(t), false, to)) {
                    return false;
                }
            }
            if (by.odd) {
                to.negate();
            }
            return true;
        }

        /** Whether nothing GREW. */
        boolean addOrders(Fraction[] entries, Fraction to) {
            to.setZero();
            for (int i = 0; i < n; i++) {
                order[i] = i;
            }
            for (int turn = 0; turn < MOST_ORDERS; turn++) {
                if (!meetsZero(entries) && !addOrder(entries, to)) {
                    return false;
                }
                if (!goOn()) {
                    return true;
                }
            }
            return true;
        }

        private Fraction inRow(Fraction[] entries, int i) {
            return entries[i * (n + 1) + order[i]];
        }

        private boolean meetsZero(Fraction[] entries) {
            for (int i = 0; i < n; i++) {
                if (inRow(entries, i).isZero()) {
                    return true;
                }
            }
            return false;
        }

        private boolean addOrder(Fraction[] entries, Fraction to) {
            product.copy(inRow(entries, 0));
            for (int i = 1; i < n; i++) {
                if (!arithmetic.multiply(product, inRow(entries, i), false, product)) {
                    return false;
                }
            }
            return arithmetic.add(to, product, fallsOddly(), to);
        }

        private boolean fallsOddly() {
            boolean odd = false;
            for (int i = 0; i < n; i++) {
                for (int k = i + 1; k < n; k++) {
                    if (order[i] > order[k]) {
                        odd = !odd;
                    }
                }
            }
            return odd;
        }

        /** The least order that is above this one: whether there is any. */
        private boolean goOn() {
            int i = n - 2;
            while (i >= 0 && order[i] > order[i + 1]) {
                i--;
            }
            if (i < 0) {
                return false;
            }
            int k = n - 1;
            while (k > i + 1 && order[k] < order[i]) {
                k--;
            }
            swap(i, k);
            for (int low = i + 1, high = n - 1; low < high; low++, high--) {
                swap(low, high);
            }
            return true;
        }

        private void swap(int i, int k) {
            int column = order[i];
            order[i] = order[k];
            order[k] = column;
        }
    }

    /** Primes below 2^31, and reckoning by them. */
    private static final class Primes {
        /** No number below 3,215,031,751 that is no prime passes for one by all of these. */
        private static final int[] WITNESSES = {2, 3, 5, 7};

        static boolean isPrime(int p) {
            if (p < 2) {
                return false;
            }
            for (int i = 0; i < WITNESSES.length; i++) {
                if (p % WITNESSES[i] == 0) {
                    return p == WITNESSES[i];
                }
            }
            for (int i = 0; i < WITNESSES.length; i++) {
                if (!passes(p, WITNESSES[i])) {
                    return false;
                }
            }
            return true;
        }

        /** The test of Miller and Rabin, p being odd and above the witness. */
        private static boolean passes(int p, int witness) {
            int twos = Integer.numberOfTrailingZeros(p - 1);
            long power = power(witness, (p - 1) >> twos, p);
            if (power == 1 || power == p - 1) {
                return true;
            }
            for (int i = 1; i < twos; i++) {
                power = power * power % p;
                if (power == p - 1) {
                    return true;
                }
            }
            return false;
        }

        /** Modulo p, which is above 1; the base is 0 .. p - 1. */
        private static long power(long base, int exponent, int p) {
            long power = 1;
            long square = base;
            for (int left = exponent; left > 0; left >>= 1) {
                if ((left & 1) == 1) {
                    power = power * square % p;
                }
                square = square * square % p;
            }
            return power;
        }

        /** Of a number that is no multiple of the prime p. */
        static long inverse(int number, int p) {
            return power(number, p - 2, p);
        }
    }

    /** What is JOINED: J and M. */
    private static final class Joint {
        private final Arithmetic arithmetic;
        private final Whole number = new Whole();
        private final Whole modulus = new Whole();
        private final Whole next = new Whole();
        private final Whole ratio = new Whole();
        private final Whole firstRest = new Whole();
        private final Whole secondRest = new Whole();
        private final Whole firstFactor = new Whole();
        private final Whole secondFactor = new Whole();
        private int primes;

        Joint(Arithmetic arithmetic) {
            this.arithmetic = arithmetic;
            modulus.setBits(1);
        }

        void forget() {
            number.setBits(0);
            modulus.setBits(1);
            primes = 0;
        }

        boolean has(int p) {
            return modulus.restBy(p) == 0;
        }

        /** Whether M stays WIDE; the prime p does not divide M, r is 0 .. p - 1. */
        boolean join(int p, int r) {
            next.copy(modulus);
            next.scale(p);
            if (!next.isWide()) {
                return false;
            }
            long missing = (long) r - number.restBy(p);
            if (missing < 0) {
                missing += p;
            }
            modulus.scale((int) (missing * Primes.inverse(modulus.restBy(p), p) % p));
            number.increase(modulus);
            modulus.copy(next);
            primes++;
            return true;
        }

        /**
         * THE FRACTION TOLD: whether there is one. Of Euclid's rests of M and J, each the same as
         * J times its factor but for multiples of M, it is the first that is low enough or none.
         */
        boolean tell(Fraction to) {
            Whole bigRest = firstRest;
            Whole rest = secondRest;
            Whole lowFactor = firstFactor;
            Whole factor = secondFactor;
            bigRest.copy(modulus);
            rest.copy(number);
            lowFactor.setBits(0);
            factor.setBits(1);
            boolean isBelow = false;
            for (int step = 0; step < Arithmetic.MOST_STEPS && !isLow(rest); step++) {
                arithmetic.divide(bigRest, rest, ratio);
                next.setProduct(ratio, factor);
                lowFactor.increase(next);
                Whole swapped = bigRest;
                bigRest = rest;
                rest = swapped;
                swapped = lowFactor;
                lowFactor = factor;
                factor = swapped;
                isBelow = !isBelow;
            }
            if (!isLow(factor) || !arithmetic.haveNothingCommon(rest, factor)) {
                return false;
            }
            to.set(isBelow, rest, factor);
            return true;
        }

        /** Whether twice its square is below M. */
        private boolean isLow(Whole whole) {
            next.setProduct(whole, whole);
            next.shiftLeft(1);
            return next.against(modulus) < 0;
        }
    }

    /** THE TEXT, its last sign first. */
    private static final class Text {
        static final int MOST_DIGITS = 30;
        /** 58 figures of a WIDE number and 30 digits. */
        private static final int MOST_FIGURES = 88;

        private final Arithmetic arithmetic;
        private final Whole one = new Whole();
        private final Whole scaled = new Whole();
        private final Whole figures = new Whole();
        private final byte[] backwards = new byte[MOST_FIGURES + 2];
        private int length;

        Text(Arithmetic arithmetic) {
            this.arithmetic = arithmetic;
            one.setBits(1);
        }

        void write(Fraction number, int digits, boolean up) {
            scaled.copy(number.u);
            for (int i = 0; i < digits; i++) {
                scaled.scale(10);
            }
            arithmetic.divide(scaled, number.v, figures);
            if (!scaled.isZero() && up != number.below) {
                figures.increase(one);
            }
            boolean isBelow = number.below && !figures.isZero();
            length = 0;
            for (int i = 0; i < MOST_FIGURES && (i <= digits || !figures.isZero()); i++) {
                if (i == digits && digits > 0) {
                    append('.');
                }
                append('0' + figures.shrinkBy(10));
            }
            if (isBelow) {
                append('-');
            }
        }

        private void append(int sign) {
            if (length < backwards.length) {
                backwards[length] = (byte) sign;
                length++;
            }
        }
    }
}
