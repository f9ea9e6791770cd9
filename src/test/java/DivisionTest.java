import java.math.BigInteger;
import java.util.Random;

/** Fractions of limbs at which long division is hard: all bits, one bit, the highest bit alone. */
public final class DivisionTest {
    private static final int CASES = 20000;
    private static final int[] LIMBS = {0, 1, 2, -1, -2, Integer.MAX_VALUE, Integer.MIN_VALUE,
        Integer.MIN_VALUE + 1, 0x10000, 0xFFFF};
    private static final Random RANDOM = new Random(192);

    public static void main(String[] args) {
        for (int i = 0; i < CASES; i++) {
            BigInteger u = whole();
            BigInteger v = whole().max(BigInteger.ONE);
            String wrong = compare(u, v);
            if (!wrong.isEmpty()) {
                System.out.println(u + " by " + v + ": " + wrong);
                System.exit(1);
            }
        }
        System.out.println(CASES + " divisions are right");
    }

    private static BigInteger whole() {
        BigInteger whole = BigInteger.ZERO;
        boolean hard = RANDOM.nextInt(4) > 0;
        for (int left = RANDOM.nextInt(7); left > 0; left--) {
            int limb = hard ? LIMBS[RANDOM.nextInt(LIMBS.length)] : RANDOM.nextInt();
            whole = whole.shiftLeft(32).or(BigInteger.valueOf(limb & 0xFFFFFFFFL));
        }
        return whole;
    }

    private static String compare(BigInteger u, BigInteger v) {
        FractionRows x = new FractionRows(1);
        BigInteger common = u.gcd(v);
        int made = x.quotient(number(x, u), number(x, v));
        if (!read(x, made, 0).equals(u.divide(common)) || !read(x, made, 1).equals(v.divide(common))) {
            return "lowest terms are " + read(x, made, 0) + "/" + read(x, made, 1);
        }
        BigInteger[] parts = u.divideAndRemainder(v);
        String floor = text(x, made, false);
        String up = text(x, made, true);
        BigInteger above = parts[1].signum() == 0 ? parts[0] : parts[0].add(BigInteger.ONE);
        if (!floor.equals(parts[0].toString()) || !up.equals(above.toString())) {
            return "it is told to lie from " + floor + " to " + up;
        }
        return "";
    }

    /** By Horner, 32 bits at a time; ENTRY 0 holds what is made so far. */
    private static int number(FractionRows x, BigInteger whole) {
        x.entry(0, 0, 0, 1);
        for (int k = (whole.bitLength() + 31) / 32 - 1; k >= 0; k--) {
            int made = x.take(0, 0);
            int scaled = x.act(2, made, x.value(1L << 32, 1));
            long limb = whole.shiftRight(32 * k).intValue() & 0xFFFFFFFFL;
            x.put(0, 0, x.act(0, scaled, x.value(limb, 1)));
            while (x.count(0) > made) {
                x.drop();
            }
        }
        return x.take(0, 0);
    }

    private static BigInteger read(FractionRows x, int a, int part) {
        BigInteger whole = BigInteger.ZERO;
        for (int k = x.about(a, 1 + part) - 1; k >= 0; k--) {
            whole = whole.shiftLeft(32).or(BigInteger.valueOf(x.limb(a, part, k) & 0xFFFFFFFFL));
        }
        return whole;
    }

    private static String text(FractionRows x, int a, boolean up) {
        StringBuilder text = new StringBuilder();
        int signs = x.decimals(a, 0, up);
        for (int i = 0; i < signs; i++) {
            text.append((char) x.sign(i));
        }
        return text.toString();
    }
}
