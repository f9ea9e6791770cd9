import java.util.Random;

/** Runs of calls at random, of several kinds, held against the Model. The seeds are fixed. */
public final class RandomRunsTest {
    private static final int RUNS = 700;
    private static final int[] PRIMES = {2, 3, 5, 7, 11, 13, 97, 101, 65537, 1000003, 1999999973,
        2147483629, 2147483647, 46337, 46349, 998244353, 1000000007, 2147483587};
    private static final int[] NO_PRIMES = {-7, -2, -1, 0, 1, 4, 9, 25, 49, 121, 561, 2047, 25326001,
        1373653, 2147483641, 2147117569, Integer.MIN_VALUE};
    private static final int[] HALVES = {0, 1, 2, -1, -2, Integer.MAX_VALUE, Integer.MIN_VALUE,
        Integer.MIN_VALUE + 1, 0x10000, 0xFFFF};

    private final Random random;
    private final Pair pair;
    private final int n;
    private final int kind;

    private RandomRunsTest(long seed) {
        random = new Random(seed);
        kind = random.nextInt(4);
        int asked = random.nextInt(10) == 0 ? random.nextInt(40) - 20 : 1 + random.nextInt(5);
        pair = new Pair(asked);
        n = pair.count(2);
    }

    public static void main(String[] args) {
        for (int seed = 0; seed < RUNS; seed++) {
            try {
                RandomRunsTest run = new RandomRunsTest(seed);
                while (run.pair.calls() < 512) {
                    run.step();
                }
            } catch (AssertionError e) {
                System.out.println("seed " + seed + ": " + e.getMessage());
                System.exit(1);
            }
        }
        System.out.println(RUNS + " runs at random are as the model's");
    }

    private long part() {
        switch (kind == 3 ? random.nextInt(4) : kind) {
            case 0:
                return random.nextInt(9) - 4;
            case 1:
                return random.nextInt(2001) - 1000;
            case 2:
                return random.nextLong() >> random.nextInt(64);
            default:
                long high = HALVES[random.nextInt(HALVES.length)];
                return high << 32 | HALVES[random.nextInt(HALVES.length)] & 0xFFFFFFFFL;
        }
    }

    private long lower() {
        return random.nextInt(3) == 0 ? part() : 1 + random.nextInt(3);
    }

    private int number() {
        int count = pair.model().numbers.size();
        if (count == 0 || random.nextInt(25) == 0) {
            return random.nextInt(5) == 0 ? random.nextInt() : random.nextInt(43) - 1;
        }
        return random.nextInt(count);
    }

    private int near(int end) {
        return random.nextInt(20) == 0 ? random.nextInt() : random.nextInt(end + 2) - 1;
    }

    private int inside(int end) {
        return random.nextInt(12) == 0 ? near(end) : random.nextInt(end);
    }

    private int prime() {
        if (random.nextInt(6) == 0) {
            return NO_PRIMES[random.nextInt(NO_PRIMES.length)];
        }
        return random.nextInt(4) == 0 ? random.nextInt(200) : PRIMES[random.nextInt(PRIMES.length)];
    }

    private void step() {
        switch (random.nextInt(16)) {
            case 0: case 1: case 2: case 3:
                stepNumbers();
                break;
            case 4: case 5: case 6:
                stepRows();
                break;
            case 7:
                fillRows();
                break;
            case 8: case 9: case 10:
                stepSolved();
                break;
            case 11: case 12: case 13:
                stepRests();
                break;
            case 14:
                stepDecimals();
                break;
            default:
                stepWhole();
        }
    }

    private void stepNumbers() {
        int made = -1;
        switch (random.nextInt(6)) {
            case 0:
                made = pair.value(part(), lower());
                break;
            case 1: case 2:
                made = pair.act(inside(4), number(), number());
                break;
            case 3:
                made = pair.quotient(number(), number());
                break;
            case 4:
                pair.compare(number(), number());
                break;
            default:
                pair.about(number(), near(4));
                pair.limb(number(), near(2), near(6));
        }
        if (made >= 0) {
            pair.lookAt(made);
        }
    }

    private void stepRows() {
        if (random.nextInt(3) > 0) {
            pair.put(inside(n), inside(n + 1), number());
            pair.entry(inside(n), inside(n + 1), part(), lower());
        } else {
            int made = pair.take(inside(n), inside(n + 1));
            if (made >= 0) {
                pair.lookAt(made);
            }
        }
    }

    /** Rows with many 0s and, at times, one that is the same as another or the sum of two. */
    private void fillRows() {
        int zeros = random.nextInt(4);
        long[][] made = new long[n][n + 1];
        for (int i = 0; i < n; i++) {
            for (int j = 0; j <= n; j++) {
                made[i][j] = random.nextInt(4) < zeros ? 0 : part();
            }
        }
        if (n > 1 && random.nextInt(2) == 0) {
            for (int j = 0; j <= n; j++) {
                made[n - 1][j] = made[0][j] + (n > 2 ? made[1][j] : 0);
            }
            made[n - 1][n] += random.nextInt(3) == 0 ? 1 : 0;
        }
        for (int i = 0; i < n; i++) {
            long v = lower();
            for (int j = 0; j <= n; j++) {
                pair.entry(i, j, made[i][j], v == 0 ? 1 : v);
            }
        }
        pair.solve(random.nextInt(2));
        pair.determinant(random.nextInt(3));
    }

    private void stepSolved() {
        switch (random.nextInt(6)) {
            case 0:
                pair.solve(inside(2));
                pair.answers();
                break;
            case 1:
                pair.answers();
                pair.pivot(near(n), near(3));
                break;
            case 2:
                pair.holds(inside(n));
                break;
            case 3:
                int answer = pair.unknown(inside(n));
                if (answer >= 0) {
                    pair.lookAt(answer);
                }
                break;
            default:
                int made = pair.determinant(inside(3));
                if (made >= 0) {
                    pair.lookAt(made);
                }
        }
    }

    private void stepRests() {
        switch (random.nextInt(6)) {
            case 0:
                pair.rest(number(), prime());
                break;
            case 1:
                pair.joined(inside(2));
                break;
            case 2:
                int told = pair.recover();
                if (told >= 0) {
                    pair.lookAt(told);
                }
                break;
            case 3:
                if (random.nextInt(8) == 0) {
                    pair.part();
                }
                break;
            default:
                int p = prime();
                int a = number();
                int r = pair.rest(a, p);
                pair.meet(p, random.nextInt(3) > 0 ? r : p > 0 ? random.nextInt(p) : random.nextInt());
        }
    }

    private void stepDecimals() {
        int signs = pair.decimals(number(), near(31), random.nextBoolean());
        for (int i = -1; i <= signs && random.nextInt(20) > 0; i++) {
            pair.sign(i);
        }
    }

    private void stepWhole() {
        switch (random.nextInt(12)) {
            case 0:
                if (random.nextInt(5) == 0) {
                    pair.clear();
                }
                break;
            case 1:
                pair.count(near(4));
                break;
            case 2:
                if (random.nextInt(4) == 0) {
                    pair.look();
                }
                break;
            default:
                for (int left = random.nextInt(8); left > 0; left--) {
                    pair.drop();
                }
        }
    }
}
