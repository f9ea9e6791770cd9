import java.math.BigInteger;
import java.util.ArrayList;
import java.util.List;

/** Each promise of the document by hand: ordinary inputs, the edges it names, wrong inputs. */
public final class PromisesTest {
    private static final int BAD = FractionRows.BAD, ZERO = FractionRows.ZERO, GREW = FractionRows.GREW,
        FULL = FractionRows.FULL, STATE = FractionRows.STATE, NONE = FractionRows.NONE;
    private static final BigInteger WIDE_END = BigInteger.ONE.shiftLeft(192);

    private static final List<Pair> PAIRS = new ArrayList<>();

    private static int promise;
    private static int checks;
    private static int wrong;

    public static void main(String[] args) {
        promise1NewObject();
        promise2Value();
        promise3Act();
        promise3ActAtTheEdgeOfWide();
        promise4Quotient();
        promise5Drop();
        promise6Compare();
        promise7About();
        promise8Limb();
        promise9Entry();
        promise10Put();
        promise11Take();
        promise12Solve();
        promise12SolveThatGrew();
        promise13Answers();
        promise14Unknown();
        promise15Pivot();
        promise16Holds();
        promise17Determinant();
        promise17DeterminantThatGrew();
        promise18Rest();
        promise19Meet();
        promise20Joined();
        promise21Recover();
        promise22Part();
        promise23Decimals();
        promise24Sign();
        promise25Count();
        promise26Clear();
        for (Pair x : PAIRS) {
            due("calls of one object within what is promised", x.calls() <= Checks.MOST_CALLS, true);
        }
        System.out.println(checks + " checks of 26 promises, " + wrong + " wrong");
        if (wrong != 0) {
            System.exit(1);
        }
    }

    // ---- helpers

    private static void due(String what, Object got, Object want) {
        checks++;
        if (!want.equals(got)) {
            wrong++;
            System.out.println("promise " + promise + ": " + what + " is " + got + ", due is " + want);
        }
    }

    private static Pair made(int n) {
        Pair x = new Pair(n);
        PAIRS.add(x);
        return x;
    }

    private static void number(Pair x, int a, String want) {
        due("NUMBER " + a, a < 0 ? "refused by " + a : x.show(a), want);
    }

    /** The whole number as a NUMBER; ENTRY 0 of ROW 0 is used for it. */
    private static int big(Pair x, BigInteger whole) {
        Checks.load(x, 0, 0, whole.toString());
        return x.take(0, 0);
    }

    private static BigInteger power(int base, int exponent) {
        return BigInteger.valueOf(base).pow(exponent);
    }

    private static Pair filled(int n, long... entries) {
        Pair x = made(n);
        refill(x, n, entries);
        return x;
    }

    private static void refill(Pair x, int n, long... entries) {
        for (int i = 0; i < n; i++) {
            for (int j = 0; j <= n; j++) {
                x.entry(i, j, entries[i * (n + 1) + j], 1);
            }
        }
    }

    private static void fill(Pair x) {
        while (x.count(0) < 40) {
            x.value(7, 2);
        }
    }

    private static boolean limbThrows(Pair x, int a, int part, int k) {
        return x.limb(a, part, k) == Pair.THROWN;
    }

    private static boolean quotientThrows(Pair x, int a, int b) {
        return x.quotient(a, b) == Pair.THROWN;
    }

    // ---- numbers

    private static void promise1NewObject() {
        promise = 1;
        int[][] cases = {{1, 1}, {3, 3}, {5, 5}, {0, 1}, {-1, 1}, {Integer.MIN_VALUE, 1}, {6, 5},
            {Integer.MAX_VALUE, 5}};
        for (int[] c : cases) {
            Pair x = made(c[0]);
            due("ROWS of " + c[0], x.count(2), c[1]);
            due("NUMBERS", x.count(0), 0);
            due("primes", x.count(1), 0);
            due("GREW", x.count(3), 0);
            due("the last ENTRY", x.entry(c[1] - 1, c[1], 1, 1), 1);
            due("no ROW behind it", x.entry(c[1], 0, 1, 1), BAD);
            due("no ENTRY behind it", x.entry(0, c[1] + 1, 1, 1), BAD);
        }
        Pair x = made(5);
        for (int i = 0; i < 5; i++) {
            for (int j = 0; j <= 5; j++) {
                number(x, x.take(i, j), "0/1");
            }
        }
        number(x, x.joined(0), "0/1");
        number(x, x.joined(1), "1/1");
    }

    private static void promise2Value() {
        promise = 2;
        Pair x = made(1);
        due("number", x.value(6, 4), 0);
        number(x, 0, "3/2");
        number(x, x.value(-6, 4), "-3/2");
        number(x, x.value(6, -4), "-3/2");
        number(x, x.value(-6, -4), "3/2");
        number(x, x.value(0, -9), "0/1");
        number(x, x.value(0, Long.MIN_VALUE), "0/1");
        number(x, x.value(Long.MIN_VALUE, -1), "9223372036854775808/1");
        number(x, x.value(Long.MIN_VALUE, 1), "-9223372036854775808/1");
        number(x, x.value(1, Long.MIN_VALUE), "-1/9223372036854775808");
        number(x, x.value(Long.MIN_VALUE, Long.MIN_VALUE), "1/1");
        number(x, x.value(Long.MIN_VALUE, 6), "-4611686018427387904/3");
        number(x, x.value(Long.MAX_VALUE, 49), "188232082384791343/1");
        number(x, x.value(Long.MAX_VALUE, Long.MIN_VALUE), "-9223372036854775807/9223372036854775808");
        due("v of 0", x.value(1, 0), ZERO);
        due("0 by 0", x.value(0, 0), ZERO);
        due("NUMBERS", x.count(0), 13);
        fill(x);
        due("one more", x.value(1, 1), FULL);
        due("ZERO ahead of FULL", x.value(1, 0), ZERO);
        due("NUMBERS", x.count(0), 40);
        x.drop();
        due("the last place", x.value(1, 1), 39);
    }

    private static void promise3Act() {
        promise = 3;
        Pair x = made(1);
        int a = x.value(5, 6);
        int b = x.value(-3, 4);
        int zero = x.value(0, 1);
        number(x, x.act(0, a, b), "1/12");
        number(x, x.act(1, a, b), "19/12");
        number(x, x.act(2, a, b), "-5/8");
        number(x, x.act(3, a, b), "-10/9");
        number(x, x.act(1, a, a), "0/1");
        number(x, x.act(2, b, zero), "0/1");
        number(x, x.act(3, zero, b), "0/1");
        number(x, x.act(0, zero, b), "-3/4");
        number(x, x.act(1, zero, b), "3/4");
        number(x, x.act(0, b, b), "-3/2");
        number(x, x.act(3, b, b), "1/1");
        int had = x.count(0);
        due("op -1", x.act(-1, a, b), BAD);
        due("op 4", x.act(4, a, b), BAD);
        due("no a", x.act(0, -1, b), BAD);
        due("a behind the last", x.act(0, had, b), BAD);
        due("no b", x.act(0, a, -1), BAD);
        due("b behind the last", x.act(3, a, had), BAD);
        due("by 0", x.act(3, a, zero), ZERO);
        due("NUMBERS stay", x.count(0), had);
        fill(x);
        due("FULL ahead of ZERO", x.act(3, a, zero), FULL);
        due("BAD ahead of FULL", x.act(4, a, b), BAD);
        due("BAD ahead of FULL", x.act(0, a, 40), BAD);
        due("no GREW", x.count(3), 0);
    }

    private static void promise3ActAtTheEdgeOfWide() {
        Pair x = made(1);
        int most = big(x, WIDE_END.subtract(BigInteger.ONE));
        number(x, most, WIDE_END.subtract(BigInteger.ONE) + "/1");
        int one = x.value(1, 1);
        int zero = x.value(0, 1);
        int half = x.value(1, 2);
        due("2^192", x.act(0, most, one), GREW);
        int least = x.act(1, zero, most);
        number(x, least, "-" + WIDE_END.subtract(BigInteger.ONE) + "/1");
        due("- 2^192", x.act(1, least, one), GREW);
        int tiny = x.act(3, one, most);
        number(x, tiny, "1/" + WIDE_END.subtract(BigInteger.ONE));
        due("half of it", x.act(2, tiny, half), GREW);
        due("most and a half", x.act(0, most, half), GREW);
        number(x, x.act(2, most, tiny), "1/1");
        number(x, x.act(3, most, most), "1/1");
        due("most by tiny", x.act(3, most, tiny), GREW);
        fill(x);
        due("FULL ahead of GREW", x.act(0, most, one), FULL);
        due("GREW is counted", x.count(3), 5);

        // What is made whole is over 2^192 before it is in lowest terms, and fits then.
        x = made(1);
        BigInteger p = power(2, 100).add(BigInteger.valueOf(277));
        int upper = x.act(3, big(x, p), big(x, power(3, 100)));
        int other = x.act(3, big(x, power(3, 100)), big(x, p.multiply(BigInteger.valueOf(8))));
        number(x, x.act(2, upper, other), "1/8");
        int a = x.act(3, x.value(1, 1), big(x, power(3, 120)));
        int b = x.act(3, x.value(2, 1), big(x, power(3, 120)));
        number(x, x.act(0, a, b), "1/" + power(3, 119));
    }

    private static void promise4Quotient() {
        promise = 4;
        Pair x = made(1);
        due("no NUMBERS", x.quotient(0, 0), BAD);
        int a = x.value(5, 6);
        int b = x.value(-3, 4);
        int zero = x.value(0, 1);
        number(x, x.quotient(a, b), "-10/9");
        number(x, x.quotient(b, a), "-9/10");
        number(x, x.quotient(zero, a), "0/1");
        due("by 0", quotientThrows(x, a, zero), true);
        due("0 by 0", quotientThrows(x, zero, zero), true);
        due("no b", x.quotient(a, 6), BAD);
        due("no a", x.quotient(-1, zero), BAD);
        due("NUMBERS stay", x.count(0), 6);
        int most = big(x, WIDE_END.subtract(BigInteger.ONE));
        int half = x.value(1, 2);
        due("twice 2^192 - 1", x.quotient(most, half), GREW);
        due("GREW is counted", x.count(3), 1);
        fill(x);
        due("FULL ahead of the exception", x.quotient(a, zero), FULL);
        due("FULL ahead of GREW", x.quotient(most, half), FULL);
        due("BAD ahead of FULL", x.quotient(40, zero), BAD);
    }

    private static void promise5Drop() {
        promise = 5;
        Pair x = made(1);
        due("none", x.drop(), STATE);
        x.value(1, 2);
        x.value(1, 3);
        due("left", x.drop(), 1);
        number(x, 0, "1/2");
        due("it is gone", x.about(1, 0), BAD);
        due("left", x.drop(), 0);
        due("none", x.drop(), STATE);
        due("NUMBERS", x.count(0), 0);
    }

    private static void promise6Compare() {
        promise = 6;
        Pair x = made(1);
        due("none", x.compare(0, 0), -2);
        long[][] rising = {{Long.MIN_VALUE, 1}, {-3, 2}, {-1, 2}, {-1, 3}, {0, 1}, {1, 3}, {1, 2},
            {2, 3}, {Long.MAX_VALUE - 1, Long.MAX_VALUE}, {1, 1}, {3, 2}, {Long.MAX_VALUE, 1}};
        for (long[] r : rising) {
            x.value(r[0], r[1]);
        }
        for (int a = 0; a < rising.length; a++) {
            for (int b = 0; b < rising.length; b++) {
                due(a + " to " + b, x.compare(a, b), Integer.compare(a, b));
            }
        }
        int most = big(x, WIDE_END.subtract(BigInteger.ONE));
        int nearly = x.act(1, most, 9);
        int above = x.act(3, most, nearly);
        int below = x.act(3, nearly, most);
        due("just above 1", x.compare(above, 9), 1);
        due("just below 1", x.compare(below, 9), -1);
        due("both", x.compare(below, above), -1);
        due("no a", x.compare(-1, 0), -2);
        due("no b", x.compare(0, x.count(0)), -2);
    }

    private static void promise7About() {
        promise = 7;
        Pair x = made(1);
        int a = x.value(-3, 8);
        int zero = x.value(0, 1);
        int b = x.value(1L << 32, 3);
        due("below", x.about(a, 0), 1);
        due("limbs of u", x.about(a, 1), 1);
        due("limbs of v", x.about(a, 2), 1);
        due("SIZE", x.about(a, 3), 6);
        due("0 is not below", x.about(zero, 0), 0);
        due("0 has no limbs", x.about(zero, 1), 0);
        due("v of 0", x.about(zero, 2), 1);
        due("SIZE of 0 is that of its v", x.about(zero, 3), 1);
        due("limbs of 2^32", x.about(b, 1), 2);
        due("SIZE", x.about(b, 3), 35);
        due("one limb", x.about(x.value(0xFFFFFFFFL, 1), 1), 1);
        due("least limbs", x.about(x.value(Long.MIN_VALUE, 1), 1), 2);
        due("least SIZE", x.about(x.value(Long.MIN_VALUE, 1), 3), 65);
        due("limbs of v", x.about(x.value(1, Long.MIN_VALUE), 2), 2);
        int most = big(x, WIDE_END.subtract(BigInteger.ONE));
        due("most limbs", x.about(most, 1), 6);
        due("most SIZE", x.about(most, 3), 193);
        due("what -1", x.about(a, -1), BAD);
        due("what 4", x.about(a, 4), BAD);
        due("no number", x.about(-1, 0), BAD);
        due("no number", x.about(x.count(0), 0), BAD);
    }

    private static void promise8Limb() {
        promise = 8;
        Pair x = made(1);
        due("no NUMBER", limbThrows(x, 0, 0, 0), true);
        int a = x.value(-0x1234567890ABCDEFL, 0x1000000000000000L);
        due("u 0", x.limb(a, 0, 0), 0x90ABCDEF);
        due("u 1", x.limb(a, 0, 1), 0x12345678);
        due("v 0", x.limb(a, 1, 0), 0);
        due("v 1", x.limb(a, 1, 1), 0x10000000);
        due("u 2", limbThrows(x, a, 0, 2), true);
        due("v 2", limbThrows(x, a, 1, 2), true);
        due("u -1", limbThrows(x, a, 0, -1), true);
        due("part 2", limbThrows(x, a, 2, 0), true);
        due("part -1", limbThrows(x, a, -1, 0), true);
        due("no NUMBER", limbThrows(x, 1, 0, 0), true);
        due("no NUMBER", limbThrows(x, -1, 0, 0), true);
        due("k above all", limbThrows(x, a, 0, Integer.MAX_VALUE), true);
        int zero = x.value(0, 5);
        due("0 has none", limbThrows(x, zero, 0, 0), true);
        due("but its v", x.limb(zero, 1, 0), 1);
        int most = big(x, WIDE_END.subtract(BigInteger.ONE));
        for (int k = 0; k < 6; k++) {
            due("limb " + k, x.limb(most, 0, k), -1);
        }
        due("no limb 6", limbThrows(x, most, 0, 6), true);
    }

    // ---- rows

    private static void promise9Entry() {
        promise = 9;
        Pair x = made(2);
        due("an ENTRY", x.entry(1, 0, 6, -4), 1);
        due("a RIGHT side", x.entry(1, 2, Long.MIN_VALUE, -2), 1);
        number(x, x.take(1, 0), "-3/2");
        number(x, x.take(1, 2), "4611686018427387904/1");
        number(x, x.take(0, 0), "0/1");
        number(x, x.take(1, 1), "0/1");
        due("v of 0", x.entry(1, 0, 1, 0), ZERO);
        due("ROW -1", x.entry(-1, 0, 1, 1), BAD);
        due("ROW 2", x.entry(2, 0, 1, 1), BAD);
        due("ENTRY -1", x.entry(0, -1, 1, 1), BAD);
        due("ENTRY 3", x.entry(0, 3, 1, 1), BAD);
        due("BAD ahead of ZERO", x.entry(0, 3, 1, 0), BAD);
        number(x, x.take(1, 0), "-3/2");
        x.entry(1, 0, 0, 7);
        number(x, x.take(1, 0), "0/1");
    }

    private static void promise10Put() {
        promise = 10;
        Pair x = made(2);
        due("no NUMBER yet", x.put(0, 0, 0), BAD);
        int a = x.value(-7, 3);
        due("put", x.put(0, 1, a), 1);
        due("put right", x.put(1, 2, a), 1);
        x.drop();
        x.value(9, 1);
        x.drop();
        number(x, x.take(0, 1), "-7/3");
        number(x, x.take(1, 2), "-7/3");
        number(x, x.take(1, 1), "0/1");
        due("ROW 2", x.put(2, 0, 0), BAD);
        due("ROW -1", x.put(-1, 0, 0), BAD);
        due("ENTRY 3", x.put(0, 3, 0), BAD);
        due("ENTRY -1", x.put(0, -1, 0), BAD);
        due("no NUMBER", x.put(0, 1, 3), BAD);
        due("no NUMBER", x.put(0, 1, -1), BAD);
        number(x, x.take(0, 1), "-7/3");
    }

    private static void promise11Take() {
        promise = 11;
        Pair x = made(2);
        x.entry(0, 2, 4, 6);
        due("its number", x.take(0, 2), 0);
        number(x, 0, "2/3");
        x.entry(0, 2, 1, 1);
        number(x, 0, "2/3");
        due("ROW 2", x.take(2, 0), BAD);
        due("ROW -1", x.take(-1, 0), BAD);
        due("ENTRY 3", x.take(0, 3), BAD);
        due("ENTRY -1", x.take(0, -1), BAD);
        fill(x);
        due("full", x.take(0, 2), FULL);
        due("BAD ahead of FULL", x.take(0, 3), BAD);
        due("NUMBERS", x.count(0), 40);
    }

    private static void promise12Solve() {
        promise = 12;
        Pair x = filled(2, 1, 2, 5, 3, 4, 11);
        due("RANK", x.solve(0), 2);
        number(x, x.unknown(0), "1/1");
        number(x, x.unknown(1), "2/1");
        due("WAY 1", x.solve(1), 2);
        due("WAY 2", x.solve(2), BAD);
        due("WAY -1", x.solve(-1), BAD);
        due("BAD leaves what is SOLVED", x.answers(), 1);
        number(x, x.unknown(1), "2/1");
        x.entry(0, 0, 0, 1);
        x.entry(1, 1, 77, 1);
        due("SOLVED stays, whatever becomes of ROWS", x.answers(), 1);
        number(x, x.unknown(1), "2/1");
        due("0 ahead: places change", x.solve(0), 2);
        due("the second ROW", x.pivot(0, 1), 1);
        number(x, x.take(1, 1), "77/1");
        number(x, x.take(0, 0), "0/1");

        // Column 0 is FREE, and column 2.
        x = filled(3, 0, 2, 4, 6, 0, 1, 2, 3, 0, 3, 6, 9);
        due("RANK 1", x.solve(0), 1);
        number(x, x.unknown(0), "0/1");
        number(x, x.unknown(1), "3/1");
        number(x, x.unknown(2), "0/1");
        due("all 0", made(4).solve(1), 0);
    }

    private static void promise12SolveThatGrew() {
        // The factor fits, the product does not: 2^100 / 1, and 2^100 in the PIVOT's row.
        Pair x = made(2);
        int large = big(x, power(2, 100));
        x.entry(0, 0, 1, 1);
        x.put(0, 1, large);
        x.put(1, 0, large);
        due("product", x.solve(0), GREW);
        due("GREW is counted", x.count(3), 1);
        due("nothing is SOLVED", x.answers(), STATE);
        // By WAY 1 the first ROW is still the PIVOT's; a smaller ENTRY 1 helps.
        x.entry(0, 1, 3, 1);
        due("fits", x.solve(0), 2);
        due("SOLVED", x.answers(), 1);
        x.put(0, 1, large);
        due("product", x.solve(1), GREW);
        due("nothing is SOLVED", x.answers(), STATE);
        due("nor PIVOTS", x.pivot(0, 0), STATE);
        due("nor unknowns", x.unknown(0), STATE);

        // Only the RIGHT side grows: solve() refuses, the DETERMINANT does not.
        x = filled(2, 1, 0, 0, 0, 1, 0);
        x.put(0, 2, big(x, power(2, 191)));
        x.entry(0, 0, 1, 1);
        x.entry(1, 0, 2, 1);
        due("RIGHT side", x.solve(0), GREW);
        number(x, x.determinant(0), "1/1");
        // The way back grows: 2^191 by 1/2.
        x = filled(1, 1, 0);
        x.put(0, 1, big(x, power(2, 191)));
        x.entry(0, 0, 1, 2);
        due("the way back", x.solve(0), GREW);
        due("nothing is SOLVED", x.answers(), STATE);
        // Without answers there is no way back, so nothing grows on it.
        x = filled(2, 0, 0, 0, 0, 0, 1);
        x.put(0, 2, big(x, power(2, 191)));
        x.entry(0, 0, 1, 2);
        due("no way back", x.solve(0), 1);
        due("no answers", x.answers(), 0);
    }

    private static void promise13Answers() {
        promise = 13;
        Pair x = made(2);
        due("nothing SOLVED", x.answers(), STATE);
        refill(x, 2, 1, 1, 2, 2, 2, 4);
        x.solve(0);
        due("many", x.answers(), 2);
        x.entry(1, 2, 5, 1);
        due("many still", x.answers(), 2);
        x.solve(0);
        due("none", x.answers(), 0);
        x.entry(1, 1, 3, 1);
        x.solve(1);
        due("one", x.answers(), 1);
        x = made(1);
        x.solve(0);
        due("0 = 0", x.answers(), 2);
        x.entry(0, 1, 1, 9);
        x.solve(0);
        due("0 = 1/9", x.answers(), 0);
    }

    private static void promise14Unknown() {
        promise = 14;
        Pair x = filled(3, 2, 1, -1, 8, -3, -1, 2, -11, -2, 1, 2, -3);
        due("nothing SOLVED", x.unknown(0), STATE);
        due("STATE ahead of BAD", x.unknown(9), STATE);
        x.solve(1);
        number(x, x.unknown(0), "2/1");
        number(x, x.unknown(1), "3/1");
        number(x, x.unknown(2), "-1/1");
        due("unknown -1", x.unknown(-1), BAD);
        due("unknown 3", x.unknown(3), BAD);
        fill(x);
        due("full", x.unknown(0), FULL);
        due("BAD ahead of FULL", x.unknown(3), BAD);
        refill(x, 3, 1, 1, 1, 1, 1, 1, 1, 2, 0, 0, 0, 0);
        x.solve(0);
        due("no answers", x.unknown(0), STATE);
        due("STATE ahead of BAD", x.unknown(3), STATE);
        // x0 + 2 x1 + 3 x2 = 7/2 with x1, x2 FREE
        x = made(3);
        x.entry(2, 0, 1, 3);
        x.entry(2, 1, 2, 1);
        x.entry(2, 3, 7, 2);
        x.solve(0);
        number(x, x.unknown(0), "21/2");
        number(x, x.unknown(1), "0/1");
        number(x, x.unknown(2), "0/1");
    }

    private static void promise15Pivot() {
        promise = 15;
        Pair x = filled(3, 4, 0, 1, 1, 3, 0, 2, 1, 2, 0, 3, 1);
        due("nothing SOLVED", x.pivot(0, 0), STATE);
        due("STATE ahead of BAD", x.pivot(7, 7), STATE);
        due("RANK", x.solve(0), 2);
        due("column 0", x.pivot(0, 0), 0);
        due("ROW 0", x.pivot(0, 1), 0);
        due("SIZE of 4", x.pivot(0, 2), 4);
        due("column 2", x.pivot(1, 0), 2);
        due("ROW 1", x.pivot(1, 1), 1);
        due("SIZE of 5/4", x.pivot(1, 2), 6);
        due("PIVOT 2", x.pivot(2, 0), BAD);
        due("PIVOT -1", x.pivot(-1, 0), BAD);
        due("what 3", x.pivot(0, 3), BAD);
        due("what -1", x.pivot(0, -1), BAD);
        // 3 and 2 have the same SIZE: the first is taken.
        due("RANK", x.solve(1), 2);
        due("least SIZE, the first", x.pivot(0, 1), 1);
        due("SIZE of 3", x.pivot(0, 2), 3);
        x.entry(0, 0, 1, 1);
        due("SOLVED stays", x.pivot(0, 1), 1);
        // 3/1 is 3 bits, 1/4 is 4, 7/2 is 5, -1/1 is 2: the sign does not count.
        x = filled(4, 3, 0, 0, 0, 0, 0, 1, 0, 0, 0, 0, 0, 1, 0, 0, -1, 0, 0, 1, 0);
        x.entry(1, 0, 1, 4);
        x.entry(2, 0, 7, 2);
        due("RANK", x.solve(1), 4);
        due("ROW 3 with -1", x.pivot(0, 1), 3);
        due("PIVOT 1", x.pivot(1, 1), 1);
        due("PIVOT 2", x.pivot(2, 1), 2);
        // ROW 0 went to place 3; its ENTRY 3 became 0 + 3 times 1.
        due("PIVOT 3", x.pivot(3, 1), 0);
        due("SIZE of 3", x.pivot(3, 2), 3);
        x.solve(0);
        due("the first by WAY 0", x.pivot(0, 1), 0);
    }

    private static void promise16Holds() {
        promise = 16;
        Pair x = filled(2, 1, 1, 3, 1, -1, 1);
        due("nothing SOLVED", x.holds(0), STATE);
        due("STATE ahead of BAD", x.holds(5), STATE);
        x.solve(0);
        due("ROW 0", x.holds(0), 1);
        due("ROW 1", x.holds(1), 1);
        due("ROW 2", x.holds(2), BAD);
        due("ROW -1", x.holds(-1), BAD);
        x.entry(1, 2, 2, 1);
        due("as it is now", x.holds(1), 0);
        x.entry(1, 0, 3, 2);
        due("as it is now", x.holds(1), 1);
        x.entry(1, 2, -2, 1);
        due("the sign counts", x.holds(1), 0);
        int wide = big(x, power(2, 191));
        x.put(1, 0, wide);
        due("2^191 times 2", x.holds(1), GREW);
        due("GREW is counted", x.count(3), 1);
        due("SOLVED stays", x.answers(), 1);
        refill(x, 2, 1, 1, 3, 1, 1, 4);
        x.solve(0);
        due("no answers", x.holds(0), STATE);
        // The sum so far grows, the whole sum would not: 2^191 + 2^191 - 2^191.
        x = filled(3, 1, 0, 0, 1, 0, 1, 0, 1, 0, 0, 1, -1);
        x.solve(0);
        wide = big(x, power(2, 191));
        x.put(0, 0, wide);
        x.put(0, 1, wide);
        x.put(0, 2, wide);
        x.put(0, 3, wide);
        due("the sum so far", x.holds(0), GREW);
    }

    private static void promise17Determinant() {
        promise = 17;
        Pair x = filled(3, 0, 2, 1, 9, 3, 0, -1, 9, 1, 1, 4, 9);
        for (int way = 0; way < 3; way++) {
            number(x, x.determinant(way), "-23/1");
        }
        due("WAY 3", x.determinant(3), BAD);
        due("WAY -1", x.determinant(-1), BAD);
        due("nothing is SOLVED by it", x.answers(), STATE);
        x.solve(0);
        int rank = x.solve(0);
        refill(x, 3, 0, 0, 1, 0, 0, 1, 0, 0, 1, 0, 0, 0);
        number(x, x.determinant(0), "-1/1");
        number(x, x.determinant(1), "-1/1");
        number(x, x.determinant(2), "-1/1");
        due("what is SOLVED stays", x.pivot(0, 1), 1);
        due("RANK", rank, 3);
        refill(x, 3, 0, 1, 0, 0, 0, 0, 1, 0, 1, 0, 0, 0);
        for (int way = 0; way < 3; way++) {
            number(x, x.determinant(way), "1/1");
        }
        refill(x, 3, 1, 2, 3, 0, 4, 5, 6, 0, 7, 8, 9, 0);
        for (int way = 0; way < 3; way++) {
            number(x, x.determinant(way), "0/1");
        }
        x.entry(2, 2, 1, 7);
        for (int way = 0; way < 3; way++) {
            number(x, x.determinant(way), "186/7");
        }
        fill(x);
        due("full", x.determinant(0), FULL);
        due("full", x.determinant(2), FULL);
        due("BAD ahead of FULL", x.determinant(3), BAD);
        x = filled(1, -5, 3);
        for (int way = 0; way < 3; way++) {
            number(x, x.determinant(way), "-5/1");
        }
        x = filled(5, 2, 1, 0, 0, 0, 0, 1, 2, 1, 0, 0, 0, 0, 1, 2, 1, 0, 0, 0, 0, 1, 2, 1, 0, 0, 0, 0,
            1, 2, 0);
        for (int way = 0; way < 3; way++) {
            number(x, x.determinant(way), "6/1");
        }
    }

    private static void promise17DeterminantThatGrew() {
        Pair x = filled(2, 0, 0, 0, 0, 0, 0);
        int large = big(x, power(2, 100));
        x.put(0, 0, large);
        x.put(1, 1, large);
        for (int way = 0; way < 3; way++) {
            due("2^200", x.determinant(way), GREW);
        }
        due("GREW is counted", x.count(3), 3);
        fill(x);
        due("FULL ahead of GREW", x.determinant(0), FULL);
        // Two ENTRIES of 2^100 stand in an order with a 0 in it: that order is not made at all.
        x = filled(3, 0, 1, 0, 0, 0, 0, 1, 0, 1, 0, 0, 0);
        int a = big(x, power(2, 100));
        x.put(0, 0, a);
        x.put(1, 1, a);
        number(x, x.determinant(2), "1/1");
        due("by PIVOTS the rest of row 2", x.determinant(0), GREW);
        // A product that grows and would come back: 2^100 times 2^100 by 2^50.
        x = filled(3, 0, 0, 0, 0, 0, 0, 0, 0, 0, 0, 0, 0);
        a = big(x, power(2, 100));
        x.put(0, 0, a);
        x.put(1, 1, a);
        x.entry(2, 2, 1, 1L << 50);
        for (int way = 0; way < 3; way++) {
            due("the product so far", x.determinant(way), GREW);
        }
        x.put(0, 0, a);
        x.entry(1, 1, 1, 1L << 50);
        x.put(2, 2, a);
        for (int way = 0; way < 3; way++) {
            number(x, x.determinant(way), power(2, 150) + "/1");
        }
        // A FREE column makes the product 0, whatever the other PIVOTS are.
        x.put(1, 1, a);
        x.put(0, 0, a);
        x.entry(2, 2, 0, 1);
        for (int way = 0; way < 3; way++) {
            number(x, x.determinant(way), "0/1");
        }
    }

    // ---- rests

    private static void promise18Rest() {
        promise = 18;
        Pair x = made(1);
        due("no NUMBER", x.rest(0, 7), BAD);
        int a = x.value(22, 7);
        int b = x.value(-22, 7);
        int zero = x.value(0, 1);
        int least = x.value(Long.MIN_VALUE, 1);
        due("22/7 by 101", x.rest(a, 101), 32);
        due("- 22/7 by 101", x.rest(b, 101), 69);
        due("22/7 by 2", x.rest(a, 2), 0);
        due("- 22/7 by 2", x.rest(b, 2), 0);
        due("22/7 by 11", x.rest(b, 11), 0);
        due("22/7 by 3", x.rest(a, 3), 1);
        due("0 by 2147483647", x.rest(zero, Integer.MAX_VALUE), 0);
        due("- 2^63 by 2147483647", x.rest(least, Integer.MAX_VALUE), Integer.MAX_VALUE - 2);
        due("v is a multiple", x.rest(a, 7), ZERO);
        // Those from 2047 on pass for primes by one, two or three of the bases 2, 3, 5, 7.
        int[] others = {Integer.MIN_VALUE, -7, -1, 0, 1, 4, 6, 9, 15, 25, 49, 121, 2147483645, 2147483646,
            46349 * 46327, 2147117569, 2047, 1373653, 25326001, 1157839381, 2284453, 1856689453,
            746331041, 1024651, 255866131};
        for (int p : others) {
            due("no prime " + p, x.rest(zero, p), BAD);
        }
        due("BAD ahead of ZERO", x.rest(a, 49), BAD);
        due("no NUMBER", x.rest(-1, 7), BAD);
        due("no NUMBER", x.rest(4, 7), BAD);
        boolean[] split = new boolean[200000];
        int unlike = 0;
        for (int p = 2; p < split.length; p++) {
            for (int k = 2 * p; k < split.length && !split[p]; k += p) {
                split[k] = true;
            }
            if (x.calls() >= Checks.MOST_CALLS - 1) {
                x = made(1);
                zero = x.value(0, 1);
            }
            unlike += x.rest(zero, p) == (split[p] ? BAD : 0) ? 0 : 1;
        }
        due("primes below 200000 that are told wrongly", unlike, 0);
    }

    private static void promise19Meet() {
        promise = 19;
        Pair x = made(1);
        due("first", x.meet(3, 2), 1);
        due("second", x.meet(5, 3), 2);
        due("third", x.meet(7, 2), 3);
        number(x, x.joined(0), "23/1");
        number(x, x.joined(1), "105/1");
        due("no prime", x.meet(4, 1), BAD);
        due("no prime", x.meet(1, 0), BAD);
        due("no prime", x.meet(-3, 0), BAD);
        due("r of p", x.meet(11, 11), BAD);
        due("r of -1", x.meet(11, -1), BAD);
        due("again", x.meet(5, 3), STATE);
        due("BAD ahead of STATE", x.meet(5, 5), BAD);
        number(x, x.joined(0), "23/1");
        due("2 with 1 : J stays", x.meet(2, 1), 4);
        number(x, x.joined(0), "23/1");
        number(x, x.joined(1), "210/1");
        due("primes", x.count(1), 4);
        due("2147483647", x.meet(Integer.MAX_VALUE, Integer.MAX_VALUE - 1), 5);
        BigInteger modulus = BigInteger.valueOf(210L * Integer.MAX_VALUE);
        number(x, x.joined(1), modulus + "/1");
        int j = x.joined(0);
        due("J by 7", x.rest(j, 7), 2);
        due("J by 2147483647", x.rest(j, Integer.MAX_VALUE), Integer.MAX_VALUE - 1);

        // M up to the edge: the product of primes stays below 2^192, the next is refused.
        x = made(1);
        BigInteger m = BigInteger.ONE;
        int p = Integer.MAX_VALUE;
        int primes = 0;
        while (m.multiply(BigInteger.valueOf(p)).bitLength() <= 192) {
            primes++;
            due("prime " + p, x.meet(p, p / 2), primes);
            m = m.multiply(BigInteger.valueOf(p));
            do {
                p -= 2;
            } while (!BigInteger.valueOf(p).isProbablePrime(40));
        }
        due("not WIDE", x.meet(p, 0), GREW);
        due("GREW is counted", x.count(3), 1);
        due("STATE ahead of GREW", x.meet(Integer.MAX_VALUE, 0), STATE);
        number(x, x.joined(1), m + "/1");
        due("room for a small one", x.meet(2, 1), primes + 1);
        due("J stays below M", x.compare(x.joined(0), x.joined(1)), -1);
        due("primes", x.count(1), primes + 1);
    }

    private static void promise20Joined() {
        promise = 20;
        Pair x = made(1);
        due("J", x.joined(0), 0);
        due("M", x.joined(1), 1);
        number(x, 0, "0/1");
        number(x, 1, "1/1");
        x.meet(13, 12);
        number(x, x.joined(0), "12/1");
        number(x, x.joined(1), "13/1");
        due("what 2", x.joined(2), BAD);
        due("what -1", x.joined(-1), BAD);
        fill(x);
        due("full", x.joined(0), FULL);
        due("full", x.joined(1), FULL);
        due("BAD ahead of FULL", x.joined(2), BAD);
    }

    private static void promise21Recover() {
        promise = 21;
        Pair x = made(1);
        due("M is 1", x.recover(), NONE);
        x.meet(2, 1);
        due("M is 2: twice 1 is not below it", x.recover(), NONE);
        x.part();
        x.meet(3, 2);
        number(x, x.recover(), "-1/1");
        x.meet(2, 0);
        due("2 by 6", x.recover(), NONE);
        x.part();
        fill(x);
        due("FULL ahead of NONE", x.recover(), FULL);
        smallOnesAll();
        // A fraction from its rests.
        x = made(1);
        int a = x.value(-314159265358979L, 271828182845904L);
        int p = Integer.MAX_VALUE;
        for (int i = 0; i < 4; i++) {
            x.meet(p, x.rest(a, p));
            do {
                p -= 2;
            } while (!BigInteger.valueOf(p).isProbablePrime(40));
        }
        int told = x.recover();
        due("the same", x.compare(a, told), 0);
        number(x, told, x.show(a));
    }

    /** All J of some M, each by trying all u and v. */
    private static void smallOnesAll() {
        int[][] sets = {{2}, {3}, {5}, {7}, {2, 3}, {2, 5}, {3, 5}, {2, 3, 5}, {7, 11}, {2, 3, 5, 7}, {11, 23}};
        for (int[] primes : sets) {
            int m = 1;
            for (int p : primes) {
                m *= p;
            }
            for (int j = 0; j < m; j++) {
                Pair x = made(1);
                for (int p : primes) {
                    x.meet(p, j % p);
                }
                int made = x.recover();
                String want = told(j, m);
                due(j + " by " + m, made == NONE ? "none" : x.show(made), want);
            }
        }
    }

    private static String told(int j, int m) {
        for (int v = 1; 2 * v * v < m; v++) {
            for (int u = -m; u <= m; u++) {
                boolean lowest = BigInteger.valueOf(u).gcd(BigInteger.valueOf(v)).equals(BigInteger.ONE);
                if (2L * u * u < m && Math.floorMod(v * j - u, m) == 0 && lowest) {
                    return u + "/" + v;
                }
            }
        }
        return "none";
    }

    private static void promise22Part() {
        promise = 22;
        Pair x = made(1);
        due("none", x.part(), 0);
        x.meet(3, 1);
        x.meet(5, 1);
        due("two", x.part(), 2);
        due("none now", x.part(), 0);
        due("none now", x.count(1), 0);
        number(x, x.joined(0), "0/1");
        number(x, x.joined(1), "1/1");
        due("3 again", x.meet(3, 2), 1);
        number(x, x.joined(0), "2/1");
    }

    // ---- decimals

    private static void written(Pair x, int a, int digits, boolean up, String want) {
        int signs = x.decimals(a, digits, up);
        due("how many signs", signs, want.length());
        due(digits + " digits" + (up ? " up" : ""), x.text(), want);
        due("no sign behind", x.sign(signs), BAD);
    }

    private static void promise23Decimals() {
        promise = 23;
        Pair x = made(1);
        int third = x.value(1, 3);
        int minus = x.value(-1, 3);
        int zero = x.value(0, 1);
        int ten = x.value(-1005, 100);
        int tiny = x.value(-1, Long.MAX_VALUE);
        int near = x.value(999, 1000);
        written(x, third, 0, false, "0");
        written(x, third, 0, true, "1");
        written(x, third, 1, false, "0.3");
        written(x, third, 1, true, "0.4");
        written(x, third, 30, false, "0." + "3".repeat(30));
        written(x, third, 30, true, "0." + "3".repeat(29) + "4");
        written(x, minus, 0, false, "-1");
        written(x, minus, 0, true, "0");
        written(x, minus, 2, false, "-0.34");
        written(x, minus, 2, true, "-0.33");
        written(x, zero, 0, true, "0");
        written(x, zero, 3, false, "0.000");
        written(x, ten, 0, false, "-11");
        written(x, ten, 0, true, "-10");
        written(x, ten, 1, false, "-10.1");
        written(x, ten, 1, true, "-10.0");
        written(x, ten, 2, false, "-10.05");
        written(x, ten, 2, true, "-10.05");
        written(x, tiny, 5, true, "0.00000");
        written(x, tiny, 5, false, "-0.00001");
        written(x, near, 2, true, "1.00");
        written(x, near, 2, false, "0.99");
        int most = big(x, WIDE_END.subtract(BigInteger.ONE));
        int least = x.act(1, zero, most);
        String figures = WIDE_END.subtract(BigInteger.ONE).toString();
        written(x, most, 0, true, figures);
        written(x, least, 30, false, "-" + figures + "." + "0".repeat(30));
        due("digits -1", x.decimals(third, -1, false), BAD);
        due("digits 31", x.decimals(third, 31, false), BAD);
        due("no NUMBER", x.decimals(-1, 3, true), BAD);
        due("no NUMBER", x.decimals(x.count(0), 3, true), BAD);
        due("BAD leaves THE TEXT", x.sign(0), (int) '-');
        due("BAD leaves THE TEXT", x.sign(89), (int) '0');
    }

    private static void promise24Sign() {
        promise = 24;
        Pair x = made(1);
        due("empty at first", x.sign(0), BAD);
        int a = x.value(-25, 2);
        x.decimals(a, 1, false);
        int[] signs = {'-', '1', '2', '.', '5'};
        for (int i = 0; i < signs.length; i++) {
            due("sign " + i, x.sign(i), signs[i]);
        }
        due("sign 5", x.sign(5), BAD);
        due("sign -1", x.sign(-1), BAD);
        due("sign of all", x.sign(Integer.MIN_VALUE), BAD);
        due("sign of all", x.sign(Integer.MAX_VALUE), BAD);
        x.decimals(a, 0, true);
        due("a shorter one", x.sign(3), BAD);
        x.drop();
        due("THE TEXT stays", x.sign(2), (int) '2');
    }

    private static void promise25Count() {
        promise = 25;
        Pair x = made(4);
        x.value(Long.MIN_VALUE, 1);
        x.act(2, 0, 0);
        x.act(2, 1, 0);
        x.meet(2, 1);
        x.meet(3, 1);
        for (int i = 0; i < 5; i++) {
            due("2^252", x.act(2, 2, 0), GREW);
        }
        due("NUMBERS", x.count(0), 3);
        due("primes", x.count(1), 2);
        due("ROWS", x.count(2), 4);
        due("GREW", x.count(3), 5);
        due("what 4", x.count(4), BAD);
        due("what -1", x.count(-1), BAD);
        x.quotient(0, 0);
        x.act(9, 0, 0);
        due("only GREW", x.count(3), 5);
    }

    private static void promise26Clear() {
        promise = 26;
        Pair x = filled(2, 1, 2, 3, 4, 5, 6);
        due("none", x.clear(), 0);
        refill(x, 2, 1, 2, 3, 4, 5, 6);
        x.value(Long.MIN_VALUE, 1);
        x.act(2, 0, 0);
        x.act(2, 1, 1);
        x.solve(0);
        x.meet(5, 3);
        x.decimals(0, 0, false);
        due("NUMBERS there were", x.clear(), 2);
        due("NUMBERS", x.count(0), 0);
        due("primes", x.count(1), 0);
        due("ROWS", x.count(2), 2);
        due("GREW stays", x.count(3), 1);
        due("nothing SOLVED", x.answers(), STATE);
        due("THE TEXT stays", x.sign(0), (int) '-');
        for (int i = 0; i < 2; i++) {
            for (int j = 0; j < 3; j++) {
                number(x, x.take(i, j), "0/1");
            }
        }
        number(x, x.joined(0), "0/1");
        number(x, x.joined(1), "1/1");
        due("0 after all", x.clear(), 8);
    }
}
