import java.util.function.Supplier;

/** Each call with each of many arguments, in each of some states, against the Model: none may throw by itself. */
public final class ArgumentsTest {
    private static final int[] VALUES = {Integer.MIN_VALUE, Integer.MIN_VALUE + 1, -65536, -7, -2, -1, 0, 1, 2, 3, 4,
        5, 6, 7, 16, 30, 31, 39, 40, 41, 90, 101, 65537, 2147483629, Integer.MAX_VALUE - 1, Integer.MAX_VALUE};
    private static final int NAMED_CALLS = 14;
    /** Behind so many an answer is free; then the state is made anew. */
    private static final int MOST_CALLS = 512;

    private final Supplier<Pair> state;
    private Pair pair;
    private int calls;

    private ArgumentsTest(Supplier<Pair> state) {
        this.state = state;
    }

    public static void main(String[] args) {
        int calls = 0;
        for (int n = 1; n <= 5; n += 2) {
            int size = n;
            calls += new ArgumentsTest(() -> new Pair(size)).callAll();
            calls += new ArgumentsTest(() -> some(size)).callAll();
            calls += new ArgumentsTest(() -> full(size)).callAll();
            calls += new ArgumentsTest(() -> withoutAnswers(size)).callAll();
            calls += new ArgumentsTest(() -> wide(size)).callAll();
        }
        System.out.println(calls + " calls are as the model's");
    }

    // ---- states

    private static Pair some(int n) {
        Pair x = new Pair(n);
        for (int i = 0; i < n; i++) {
            for (int j = 0; j <= n; j++) {
                x.entry(i, j, (i + 2) * (j + 3) % 7 - 3, 1 + (i + j) % 3);
            }
        }
        x.solve(1);
        x.meet(101, 46);
        x.value(-22, 7);
        x.value(0, 1);
        x.value(101, 2147483629);
        x.decimals(0, 30, true);
        return x;
    }

    private static Pair full(int n) {
        Pair x = some(n);
        while (x.model().numbers.size() < 40) {
            x.value(7, 2);
        }
        return x;
    }

    private static Pair withoutAnswers(int n) {
        Pair x = some(n);
        for (int j = 0; j < n; j++) {
            x.entry(n - 1, j, 0, 1);
        }
        x.entry(n - 1, n, 1, 1);
        x.solve(0);
        return x;
    }

    /** NUMBERS, ENTRIES and M near the end of what is WIDE. */
    private static Pair wide(int n) {
        Pair x = new Pair(n);
        x.value(Long.MAX_VALUE, 1);
        x.act(2, 0, 0);
        x.act(2, 1, 0);
        x.value(-7, 1);
        x.act(2, 2, 3);
        x.act(3, 3, 2);
        x.act(0, 4, 0);
        for (int i = 0; i < n; i++) {
            for (int j = 0; j <= n; j++) {
                x.put(i, j, (i * 3 + j) % 7);
            }
        }
        for (int p : new int[] {2147483647, 2147483629, 2147483587, 2147483579, 2147483563, 2147483549}) {
            x.meet(p, p - 2);
        }
        x.decimals(4, 30, false);
        return x;
    }

    // ---- calls

    private void renew() {
        if (pair == null || pair.calls() >= MOST_CALLS) {
            calls += pair == null ? 0 : pair.calls();
            pair = state.get();
        }
    }

    private int callAll() {
        for (int a : VALUES) {
            for (int b : VALUES) {
                for (int c : VALUES) {
                    callThree(a, b, c);
                }
                callTwo(a, b);
            }
            callOne(a);
        }
        return calls + pair.calls();
    }

    private void callThree(int a, int b, int c) {
        renew();
        pair.limb(a, b, c);
        renew();
        pair.act(a, b, c);
        renew();
        pair.put(a, b, c);
    }

    private void callTwo(int a, int b) {
        for (int call = 0; call < NAMED_CALLS; call++) {
            renew();
            switch (call) {
                case 0: pair.value(a, b); break;
                case 1: pair.quotient(a, b); break;
                case 2: pair.compare(a, b); break;
                case 3: pair.about(a, b); break;
                case 4: pair.take(a, b); break;
                case 5: pair.pivot(a, b); break;
                case 6: pair.rest(a, b); break;
                case 7: pair.meet(a, b); break;
                case 8: pair.decimals(a, b, true); break;
                case 9: pair.decimals(a, b, false); break;
                case 10: pair.entry(a, b, 0, 0); break;
                case 11: pair.entry(a, b, Long.MIN_VALUE, -3); break;
                case 12: pair.entry(0, 1, (long) a << 32, b); break;
                default: pair.value((long) a << 32 | 1, (long) b << 31);
            }
        }
    }

    private void callOne(int a) {
        for (int call = 0; call < NAMED_CALLS; call++) {
            renew();
            switch (call) {
                case 0: pair.solve(a); break;
                case 1: pair.unknown(a); break;
                case 2: pair.holds(a); break;
                case 3: pair.determinant(a); break;
                case 4: pair.joined(a); break;
                case 5: pair.sign(a); break;
                case 6: pair.count(a); break;
                case 7: pair.recover(); break;
                case 8: pair.answers(); break;
                case 9: pair.drop(); break;
                case 10: pair.determinant(2); break;
                case 11: pair.solve(a & 1); break;
                case 12: pair.part(); break;
                default: pair.clear();
            }
        }
    }
}
