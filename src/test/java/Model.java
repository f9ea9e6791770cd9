import java.math.BigInteger;
import java.util.ArrayList;
import java.util.List;

/** The document once more, over BigInteger and in its own words, to hold FractionRows against. */
final class Model {
    static final int BAD = -1, ZERO = -2, GREW = -3, FULL = -4, STATE = -5, NONE = -6;

    /** Something GREW. */
    static final class Grown extends Exception {
        private static final long serialVersionUID = 1L;
    }

    static final class Ratio {
        static final Ratio NOTHING = new Ratio(BigInteger.ZERO, BigInteger.ONE);
        final BigInteger u, v;

        Ratio(BigInteger u, BigInteger v) {
            BigInteger common = u.gcd(v);
            if (v.signum() < 0) {
                common = common.negate();
            }
            this.u = u.divide(common);
            this.v = v.divide(common);
        }

        boolean isZero() {
            return u.signum() == 0;
        }

        int size() {
            return u.abs().bitLength() + v.bitLength();
        }

        Ratio checked() throws Grown {
            if (u.abs().bitLength() > 192 || v.bitLength() > 192) {
                throw new Grown();
            }
            return this;
        }

        Ratio plus(Ratio b) throws Grown {
            return new Ratio(u.multiply(b.v).add(b.u.multiply(v)), v.multiply(b.v)).checked();
        }

        Ratio minus(Ratio b) throws Grown {
            return new Ratio(u.multiply(b.v).subtract(b.u.multiply(v)), v.multiply(b.v)).checked();
        }

        Ratio times(Ratio b) throws Grown {
            return new Ratio(u.multiply(b.u), v.multiply(b.v)).checked();
        }

        Ratio by(Ratio b) throws Grown {
            return new Ratio(u.multiply(b.v), v.multiply(b.u)).checked();
        }

        boolean same(Ratio b) {
            return u.equals(b.u) && v.equals(b.v);
        }
    }

    /** A row that knows its number, while places change. */
    static final class Row {
        final int number;
        final Ratio[] entries;

        Row(int number, Ratio[] entries) {
            this.number = number;
            this.entries = entries.clone();
        }
    }

    static final class Steps {
        final List<Row> rows = new ArrayList<>();
        final List<Integer> columns = new ArrayList<>();
        final List<Ratio> pivots = new ArrayList<>();
        int changes;
    }

    final int n;
    final List<Ratio> numbers = new ArrayList<>();
    final Ratio[][] rows;
    Steps solved;
    boolean solvedHasAnswers;
    Ratio[] unknowns;
    BigInteger j = BigInteger.ZERO, m = BigInteger.ONE;
    int primes;
    int grown;
    String text = "";

    Model(int n) {
        this.n = n < 1 ? 1 : n > 5 ? 5 : n;
        rows = new Ratio[this.n][this.n + 1];
        wipeRows();
    }

    private void wipeRows() {
        for (Ratio[] row : rows) {
            java.util.Arrays.fill(row, Ratio.NOTHING);
        }
    }

    private boolean is(int a) {
        return a >= 0 && a < numbers.size();
    }

    private boolean full() {
        return numbers.size() == 40;
    }

    private int keep(Ratio ratio) {
        numbers.add(ratio);
        return numbers.size() - 1;
    }

    private int grew() {
        grown++;
        return GREW;
    }

    private static Ratio ratio(long u, long v) {
        return new Ratio(BigInteger.valueOf(u), BigInteger.valueOf(v));
    }

    int value(long u, long v) {
        if (v == 0) return ZERO;
        if (full()) return FULL;
        return keep(ratio(u, v));
    }

    int act(int op, int a, int b) {
        if (op < 0 || op > 3 || !is(a) || !is(b)) return BAD;
        if (full()) return FULL;
        Ratio x = numbers.get(a), y = numbers.get(b);
        if (op == 3 && y.isZero()) return ZERO;
        try {
            return keep(op == 0 ? x.plus(y) : op == 1 ? x.minus(y) : op == 2 ? x.times(y) : x.by(y));
        } catch (Grown e) {
            return grew();
        }
    }

    int quotient(int a, int b) {
        if (is(a) && is(b) && !full() && numbers.get(b).isZero()) {
            throw new ArithmeticException();
        }
        return act(3, a, b);
    }

    int drop() {
        if (numbers.isEmpty()) return STATE;
        numbers.remove(numbers.size() - 1);
        return numbers.size();
    }

    int compare(int a, int b) {
        if (!is(a) || !is(b)) return -2;
        Ratio x = numbers.get(a), y = numbers.get(b);
        return x.u.multiply(y.v).compareTo(y.u.multiply(x.v));
    }

    int about(int a, int what) {
        if (!is(a)) return BAD;
        Ratio x = numbers.get(a);
        switch (what) {
            case 0: return x.u.signum() < 0 ? 1 : 0;
            case 1: return (x.u.abs().bitLength() + 31) / 32;
            case 2: return (x.v.bitLength() + 31) / 32;
            case 3: return x.size();
            default: return BAD;
        }
    }

    int limb(int a, int part, int k) {
        if (!is(a) || part < 0 || part > 1) throw new IndexOutOfBoundsException();
        BigInteger whole = part == 0 ? numbers.get(a).u.abs() : numbers.get(a).v;
        if (k < 0 || k >= (whole.bitLength() + 31) / 32) throw new IndexOutOfBoundsException();
        return whole.shiftRight(32 * k).intValue();
    }

    private boolean place(int i, int k) {
        return i >= 0 && i < n && k >= 0 && k <= n;
    }

    int entry(int i, int k, long u, long v) {
        if (!place(i, k)) return BAD;
        if (v == 0) return ZERO;
        rows[i][k] = ratio(u, v);
        return 1;
    }

    int put(int i, int k, int a) {
        if (!place(i, k) || !is(a)) return BAD;
        rows[i][k] = numbers.get(a);
        return 1;
    }

    int take(int i, int k) {
        if (!place(i, k)) return BAD;
        if (full()) return FULL;
        return keep(rows[i][k]);
    }

    private Steps eliminate(int way, int end) throws Grown {
        Steps steps = new Steps();
        for (int i = 0; i < n; i++) steps.rows.add(new Row(i, rows[i]));
        for (int c = 0; c < n; c++) {
            int t = steps.pivots.size();
            int taken = -1;
            for (int place = t; place < n; place++) {
                Ratio entry = steps.rows.get(place).entries[c];
                if (entry.isZero()) continue;
                if (taken == -1 || way == 1 && entry.size() < steps.rows.get(taken).entries[c].size()) {
                    taken = place;
                }
            }
            if (taken == -1) continue;
            Row pivotRow = steps.rows.get(taken);
            if (taken != t) {
                steps.changes++;
                steps.rows.set(taken, steps.rows.get(t));
                steps.rows.set(t, pivotRow);
            }
            Ratio pivot = pivotRow.entries[c];
            steps.pivots.add(pivot);
            steps.columns.add(c);
            for (int place = t + 1; place < n; place++) {
                Ratio[] behind = steps.rows.get(place).entries;
                if (behind[c].isZero()) continue;
                Ratio f = behind[c].by(pivot);
                for (int k = c + 1; k < end; k++) {
                    behind[k] = behind[k].minus(f.times(pivotRow.entries[k]));
                }
                behind[c] = Ratio.NOTHING;
            }
        }
        return steps;
    }

    int solve(int way) {
        if (way != 0 && way != 1) return BAD;
        solved = null;
        try {
            Steps steps = eliminate(way, n + 1);
            int rank = steps.pivots.size();
            boolean answers = true;
            for (int place = rank; place < n; place++) {
                answers &= steps.rows.get(place).entries[n].isZero();
            }
            Ratio[] found = new Ratio[n];
            java.util.Arrays.fill(found, Ratio.NOTHING);
            for (int t = rank - 1; t >= 0 && answers; t--) {
                int column = steps.columns.get(t);
                Ratio[] entries = steps.rows.get(t).entries;
                Ratio sum = entries[n];
                for (int k = column + 1; k < n; k++) sum = sum.minus(entries[k].times(found[k]));
                found[column] = sum.by(steps.pivots.get(t));
            }
            solved = steps;
            solvedHasAnswers = answers;
            unknowns = found;
            return rank;
        } catch (Grown e) {
            return grew();
        }
    }

    int answers() {
        if (solved == null) return STATE;
        return !solvedHasAnswers ? 0 : solved.pivots.size() == n ? 1 : 2;
    }

    int unknown(int k) {
        if (solved == null || !solvedHasAnswers) return STATE;
        if (k < 0 || k >= n) return BAD;
        if (full()) return FULL;
        return keep(unknowns[k]);
    }

    int pivot(int k, int what) {
        if (solved == null) return STATE;
        if (k < 0 || k >= solved.pivots.size() || what < 0 || what > 2) return BAD;
        return what == 0 ? solved.columns.get(k)
            : what == 1 ? solved.rows.get(k).number : solved.pivots.get(k).size();
    }

    int holds(int i) {
        if (solved == null || !solvedHasAnswers) return STATE;
        if (i < 0 || i >= n) return BAD;
        try {
            Ratio sum = Ratio.NOTHING;
            for (int k = 0; k < n; k++) sum = sum.plus(rows[i][k].times(unknowns[k]));
            return sum.same(rows[i][n]) ? 1 : 0;
        } catch (Grown e) {
            return grew();
        }
    }

    int determinant(int way) {
        if (way < 0 || way > 2) return BAD;
        if (full()) return FULL;
        try {
            return keep(way == 2 ? byOrders(new ArrayList<>(), Ratio.NOTHING) : byPivots(way));
        } catch (Grown e) {
            return grew();
        }
    }

    private Ratio byPivots(int way) throws Grown {
        Steps steps = eliminate(way, n);
        if (steps.pivots.size() < n) return Ratio.NOTHING;
        Ratio product = ratio(1, 1);
        for (Ratio pivot : steps.pivots) product = product.times(pivot);
        return steps.changes % 2 == 0 ? product : Ratio.NOTHING.minus(product);
    }

    private Ratio byOrders(List<Integer> order, Ratio sum) throws Grown {
        if (order.size() < n) {
            Ratio so = sum;
            for (int column = 0; column < n; column++) {
                if (order.contains(column)) continue;
                order.add(column);
                so = byOrders(order, so);
                order.remove(order.size() - 1);
            }
            return so;
        }
        int falls = 0;
        boolean zero = false;
        for (int i = 0; i < n; i++) {
            zero |= rows[i][order.get(i)].isZero();
            for (int k = i + 1; k < n; k++) falls += order.get(i) > order.get(k) ? 1 : 0;
        }
        if (zero) return sum;
        Ratio product = ratio(1, 1);
        for (int i = 0; i < n; i++) product = product.times(rows[i][order.get(i)]);
        return falls % 2 == 0 ? sum.plus(product) : sum.minus(product);
    }

    static boolean prime(int p) {
        if (p < 2) return false;
        for (int d = 2; (long) d * d <= p; d++) {
            if (p % d == 0) return false;
        }
        return true;
    }

    int rest(int a, int p) {
        if (!is(a) || !prime(p)) return BAD;
        BigInteger modulus = BigInteger.valueOf(p);
        Ratio x = numbers.get(a);
        if (x.v.mod(modulus).signum() == 0) return ZERO;
        return x.u.multiply(x.v.modInverse(modulus)).mod(modulus).intValue();
    }

    int meet(int p, int r) {
        if (!prime(p) || r < 0 || r >= p) return BAD;
        BigInteger prime = BigInteger.valueOf(p);
        if (m.mod(prime).signum() == 0) return STATE;
        BigInteger product = m.multiply(prime);
        if (product.bitLength() > 192) return grew();
        BigInteger ofOld = j.multiply(prime).multiply(prime.modInverse(m));
        BigInteger ofNew = BigInteger.valueOf(r).multiply(m).multiply(m.modInverse(prime));
        j = ofOld.add(ofNew).mod(product);
        m = product;
        primes++;
        return primes;
    }

    int joined(int what) {
        if (what < 0 || what > 1) return BAD;
        if (full()) return FULL;
        return keep(new Ratio(what == 0 ? j : m, BigInteger.ONE));
    }

    /** Lattice reduction by Gauss, so that no step is Euclid's as in the program. */
    int recover() {
        if (full()) return FULL;
        BigInteger[] a = {m, BigInteger.ZERO}, b = {j, BigInteger.ONE};
        if (dot(a, a).compareTo(dot(b, b)) < 0) {
            BigInteger[] c = a;
            a = b;
            b = c;
        }
        while (dot(b, b).compareTo(dot(a, a)) < 0) {
            BigInteger twice = dot(a, b).shiftLeft(1).add(dot(b, b));
            BigInteger near = floor(twice, dot(b, b).shiftLeft(1));
            BigInteger[] c = {a[0].subtract(near.multiply(b[0])), a[1].subtract(near.multiply(b[1]))};
            a = b;
            b = c;
        }
        for (BigInteger[] x : new BigInteger[][] {a, b}) {
            BigInteger u = x[1].signum() < 0 ? x[0].negate() : x[0];
            BigInteger v = x[1].abs();
            if (v.signum() > 0 && low(u) && low(v) && u.gcd(v).equals(BigInteger.ONE)) {
                return keep(new Ratio(u, v));
            }
        }
        return NONE;
    }

    private static BigInteger dot(BigInteger[] a, BigInteger[] b) {
        return a[0].multiply(b[0]).add(a[1].multiply(b[1]));
    }

    private static BigInteger floor(BigInteger a, BigInteger b) {
        BigInteger[] parts = a.divideAndRemainder(b);
        return parts[1].signum() < 0 ? parts[0].subtract(BigInteger.ONE) : parts[0];
    }

    private boolean low(BigInteger x) {
        return x.multiply(x).shiftLeft(1).compareTo(m) < 0;
    }

    int part() {
        int had = primes;
        j = BigInteger.ZERO;
        m = BigInteger.ONE;
        primes = 0;
        return had;
    }

    int decimals(int a, int digits, boolean up) {
        if (!is(a) || digits < 0 || digits > 30) return BAD;
        Ratio x = numbers.get(a);
        BigInteger scaled = x.u.multiply(BigInteger.TEN.pow(digits));
        BigInteger whole = up ? floor(scaled.negate(), x.v).negate() : floor(scaled, x.v);
        text = new java.math.BigDecimal(whole, digits).toPlainString();
        return text.length();
    }

    int sign(int i) {
        return i < 0 || i >= text.length() ? BAD : text.charAt(i);
    }

    int count(int what) {
        switch (what) {
            case 0: return numbers.size();
            case 1: return primes;
            case 2: return n;
            case 3: return grown;
            default: return BAD;
        }
    }

    int clear() {
        int had = numbers.size();
        numbers.clear();
        wipeRows();
        solved = null;
        part();
        return had;
    }
}
