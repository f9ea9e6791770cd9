import java.math.BigInteger;

/** A FractionRows and a Model that get the same calls; the first answer that differs is told with the run. */
final class Pair {
    private final FractionRows real;
    private final Model model;
    private final StringBuilder run = new StringBuilder();
    private int calls;

    Pair(int n) {
        real = new FractionRows(n);
        model = new Model(n);
        run.append("new FractionRows(").append(n).append(")\n");
    }

    int calls() {
        return calls;
    }

    Model model() {
        return model;
    }

    int same(String call, int got, int want) {
        calls++;
        run.append(call).append(" = ").append(got).append('\n');
        if (got != want) {
            throw new AssertionError(run + "the last is due to answer " + want);
        }
        return got;
    }

    private static String call(String name, Object... arguments) {
        StringBuilder call = new StringBuilder(name).append('(');
        for (int i = 0; i < arguments.length; i++) {
            call.append(i == 0 ? "" : ", ").append(arguments[i]);
        }
        return call.append(')').toString();
    }

    int value(long u, long v) {
        return same(call("value", u, v), real.value(u, v), model.value(u, v));
    }

    int act(int op, int a, int b) {
        return same(call("act", op, a, b), real.act(op, a, b), model.act(op, a, b));
    }

    static final int THROWN = Integer.MIN_VALUE + 77;

    int quotient(int a, int b) {
        int got;
        int want;
        try {
            got = real.quotient(a, b);
        } catch (ArithmeticException e) {
            got = THROWN;
            onlyOwn(e);
        }
        try {
            want = model.quotient(a, b);
        } catch (ArithmeticException e) {
            want = THROWN;
        }
        return same(call("quotient", a, b), got, want);
    }

    /** The machine's own exception of a division bears this text. */
    private void onlyOwn(ArithmeticException e) {
        if (e.getClass() != ArithmeticException.class || "/ by zero".equals(e.getMessage())) {
            throw new AssertionError(run + "the machine threw " + e);
        }
    }

    int drop() {
        return same("drop()", real.drop(), model.drop());
    }

    int compare(int a, int b) {
        return same(call("compare", a, b), real.compare(a, b), model.compare(a, b));
    }

    int about(int a, int what) {
        return same(call("about", a, what), real.about(a, what), model.about(a, what));
    }

    int limb(int a, int part, int k) {
        int got;
        int want;
        try {
            got = real.limb(a, part, k);
        } catch (IndexOutOfBoundsException e) {
            got = THROWN;
            onlyPlain(e);
        }
        try {
            want = model.limb(a, part, k);
        } catch (IndexOutOfBoundsException e) {
            want = THROWN;
        }
        return same(call("limb", a, part, k), got, want);
    }

    private void onlyPlain(IndexOutOfBoundsException e) {
        if (e.getClass() != IndexOutOfBoundsException.class) {
            throw new AssertionError(run + "the machine threw " + e);
        }
    }

    int entry(int i, int j, long u, long v) {
        return same(call("entry", i, j, u, v), real.entry(i, j, u, v), model.entry(i, j, u, v));
    }

    int put(int i, int j, int a) {
        return same(call("put", i, j, a), real.put(i, j, a), model.put(i, j, a));
    }

    int take(int i, int j) {
        return same(call("take", i, j), real.take(i, j), model.take(i, j));
    }

    int solve(int way) {
        return same(call("solve", way), real.solve(way), model.solve(way));
    }

    int answers() {
        return same("answers()", real.answers(), model.answers());
    }

    int unknown(int j) {
        return same(call("unknown", j), real.unknown(j), model.unknown(j));
    }

    int pivot(int k, int what) {
        return same(call("pivot", k, what), real.pivot(k, what), model.pivot(k, what));
    }

    int holds(int i) {
        return same(call("holds", i), real.holds(i), model.holds(i));
    }

    int determinant(int way) {
        return same(call("determinant", way), real.determinant(way), model.determinant(way));
    }

    int rest(int a, int p) {
        return same(call("rest", a, p), real.rest(a, p), model.rest(a, p));
    }

    int meet(int p, int r) {
        return same(call("meet", p, r), real.meet(p, r), model.meet(p, r));
    }

    int joined(int what) {
        return same(call("joined", what), real.joined(what), model.joined(what));
    }

    int recover() {
        return same("recover()", real.recover(), model.recover());
    }

    int part() {
        return same("part()", real.part(), model.part());
    }

    int decimals(int a, int digits, boolean up) {
        return same(call("decimals", a, digits, up), real.decimals(a, digits, up),
            model.decimals(a, digits, up));
    }

    int sign(int i) {
        return same(call("sign", i), real.sign(i), model.sign(i));
    }

    int count(int what) {
        return same(call("count", what), real.count(what), model.count(what));
    }

    int clear() {
        return same("clear()", real.clear(), model.clear());
    }

    /** A NUMBER as u/v. */
    String show(int a) {
        return (about(a, 0) == 1 ? "-" : "") + whole(a, 0) + "/" + whole(a, 1);
    }

    private BigInteger whole(int a, int part) {
        BigInteger whole = BigInteger.ZERO;
        for (int k = about(a, 1 + part) - 1; k >= 0; k--) {
            whole = whole.shiftLeft(32).or(BigInteger.valueOf(limb(a, part, k) & 0xFFFFFFFFL));
        }
        return whole;
    }

    /** THE TEXT, up to the first sign that there is none of. */
    String text() {
        StringBuilder text = new StringBuilder();
        for (int sign = sign(0); sign != FractionRows.BAD; sign = sign(text.length())) {
            text.append((char) sign);
        }
        return text.toString();
    }

    /** Every part of every NUMBER, of THE TEXT and of what is SOLVED; these calls change nothing. */
    void look() {
        for (int what = -1; what <= 4; what++) {
            count(what);
        }
        for (int a = 0; a < model.numbers.size(); a++) {
            lookAt(a);
        }
        for (int i = -1; i <= model.text.length(); i++) {
            sign(i);
        }
        answers();
        for (int k = -1; k <= 5; k++) {
            for (int what = -1; what <= 3; what++) {
                pivot(k, what);
            }
        }
    }

    void lookAt(int a) {
        for (int what = 0; what < 4; what++) {
            about(a, what);
        }
        for (int part = 0; part < 2; part++) {
            int length = about(a, 1 + part);
            for (int k = -1; k <= length; k++) {
                limb(a, part, k);
            }
        }
    }
}
