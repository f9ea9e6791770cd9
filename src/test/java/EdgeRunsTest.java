import java.math.BigInteger;
import java.util.Random;

/** ROWS at random whose FRACTIONS are so wide that some grow on the way and some just do not, against the Model. */
public final class EdgeRunsTest extends Checks {
    private static final int RUNS = 6000;

    private static int grew;
    private static int fitted;

    public static void main(String[] args) {
        for (int seed = 0; seed < RUNS; seed++) {
            try {
                oneRun(new Random(seed));
            } catch (AssertionError e) {
                System.out.println("seed " + seed + ": " + e.getMessage());
                System.exit(1);
            }
        }
        System.out.println(RUNS + " runs at the edge are as the model's: " + grew + " calls that grew, " + fitted
            + " that did not");
        if (Math.min(grew, fitted) < RUNS / 2) {
            System.exit(1);
        }
    }

    private static void oneRun(Random random) {
        int n = 1 + random.nextInt(5);
        Pair x = new Pair(n);
        int bits = 1 + random.nextInt(n > 2 ? 60 : 190);
        fillAtRandom(x, random, n, bits);
        for (int way = 0; way < 2; way++) {
            count(x.solve(way));
            x.answers();
            look(x, x.unknown(random.nextInt(n)));
            count(x.holds(random.nextInt(n)));
            x.pivot(random.nextInt(n), 2);
        }
        for (int way = 0; way < 3; way++) {
            look(x, x.determinant(way));
        }
        // What is SOLVED stays; other ROWS are held against it.
        x.entry(random.nextInt(n), random.nextInt(n + 1), random.nextLong() >> random.nextInt(64), 3);
        for (int i = 0; i < n; i++) {
            count(x.holds(i));
        }
        x.count(3);
    }

    private static void fillAtRandom(Pair x, Random random, int n, int bits) {
        int zeros = random.nextInt(4);
        boolean fractions = random.nextBoolean();
        for (int i = 0; i < n; i++) {
            for (int j = 0; j <= n; j++) {
                if (random.nextInt(5) >= zeros) {
                    BigInteger v = fractions ? part(random, Math.max(1, bits / 4)).abs() : BigInteger.ONE;
                    load(x, i, j, part(random, bits) + "/" + v);
                }
            }
        }
        if (n > 1 && random.nextInt(4) == 0) {
            repeatRow(x, n, random.nextInt(n - 1));
        }
    }

    /** Of so many bits: at random, or all bits, or one bit. */
    private static BigInteger part(Random random, int bits) {
        int most = Math.max(1, bits + random.nextInt(5) - 2);
        BigInteger end = BigInteger.ONE.shiftLeft(most);
        BigInteger made;
        switch (random.nextInt(3)) {
            case 0: made = new BigInteger(most, random).setBit(most - 1); break;
            case 1: made = end.subtract(BigInteger.ONE); break;
            default: made = end.shiftRight(1);
        }
        return random.nextBoolean() ? made : made.negate();
    }

    private static void repeatRow(Pair x, int n, int from) {
        for (int j = 0; j <= n; j++) {
            x.put(n - 1, j, x.take(from, j));
            x.drop();
        }
    }

    private static void look(Pair x, int answer) {
        count(answer);
        if (answer >= 0) {
            x.show(answer);
        }
    }

    private static void count(int answer) {
        grew += answer == GREW ? 1 : 0;
        fitted += answer >= 0 ? 1 : 0;
    }
}
