import java.math.BigInteger;

/** The sentences of promises 18 to 22, and those of 'Terms' about JOINED, RESTS, THE FRACTION TOLD. */
public final class BoundsOfRestsTest extends Checks {
    /** The three greatest primes of an int. */
    private static final int GREATEST = MOST, SECOND = 2147483629, THIRD = 2147483587;

    public static void main(String[] args) throws IllegalAccessException {
        runAll(BoundsOfRestsTest.class);
    }

    private static void joinedIs(Pair x, String j, String m) {
        is(x, x.joined(0), j);
        x.drop();
        is(x, x.joined(1), m);
        x.drop();
    }

    /** J becomes what is written, by the RESTS of the primes. */
    private static Pair joined(String written, int... primes) {
        Pair x = pair(1);
        for (int p : primes) {
            x.meet(p, whole(written).mod(BigInteger.valueOf(p)).intValue());
        }
        return x;
    }

    // ---- Terms

    @Sentence("JOINED are J and M, 0 and 1 at first.")
    static void joinedAtFirst() {
        Pair x = pair(1);
        joinedIs(x, "0", "1");
        due("primes", x.count(1), 0);
    }

    @Sentence("A REST of u / v by a prime p: the r of 0 .. p - 1 for which r v less u is a multiple of p.")
    static void restsFromNoneToTheMost() {
        Pair x = pair(1);
        int a = number(x, "-1");
        int b = number(x, "1");
        for (int p : new int[] {2, 3, 5, 65537, GREATEST}) {
            due("- 1 by " + p, x.rest(a, p), p - 1);
            due("1 by " + p, x.rest(b, p), 1);
            int multiple = number(x, String.valueOf(p));
            due("p by p", x.rest(multiple, p), 0);
            due("- p by p", x.rest(x.act(2, multiple, a), p), 0);
        }
        due("0", x.rest(number(x, "0"), 2), 0);
        due("1/3 by 2", x.rest(number(x, "1/3"), 2), 1);
        due("- 22/7 by 101", x.rest(number(x, "-22/7"), 101), 69);
    }

    @Sentence("THE FRACTION TOLD: u / v for which v J less u is a multiple of M")
    static void toldFraction() {
        Pair x = joined("22", 101, 97);
        is(x, x.recover(), "22");
        x = pair(1);
        int a = number(x, "22/7");
        x.meet(101, x.rest(a, 101));
        x.meet(97, x.rest(a, 97));
        is(x, x.recover(), "22/7");
    }

    @Sentence("and twice the square of u .. is below M (18 and 19, 18 and 17; 2 and 2)")
    static void toldUpperPartAtTheEdge() {
        Pair x = joined("3", 19);
        is(x, x.recover(), "3");
        x = joined("16", 19);
        is(x, x.recover(), "-3");
        due("18 is not below 17", joined("3", 17).recover(), NONE);
        due("- 3 by 17", joined("14", 17).recover(), NONE);
        due("2 is not below 2", joined("1", 2).recover(), NONE);
        x = joined("1", 3);
        is(x, x.recover(), "1");
        x = joined("2", 3);
        is(x, x.recover(), "-1");
    }

    @Sentence("and twice the square .. of v, is below M")
    static void toldLowerPartAtTheEdge() {
        // 1/3 is 13 by 19 and 6 by 17.
        Pair x = joined("13", 19);
        is(x, x.recover(), "1/3");
        x = joined("6", 19);
        is(x, x.recover(), "-1/3");
        due("18 is not below 17", joined("6", 17).recover(), NONE);
        due("- 1/3 by 17", joined("11", 17).recover(), NONE);
        due("0 by 2 : v of 1 is too much", joined("0", 2).recover(), NONE);
        x = joined("0", 3);
        is(x, x.recover(), "0");
    }

    @Sentence("THE FRACTION TOLD (of the greatest M, u at its edge, and behind it)")
    static void toldOfTheGreatest() {
        int[] primes = {GREATEST, SECOND, THIRD, 2147483579, 2147483563, 2147483549, 61};
        BigInteger m = BigInteger.ONE;
        for (int p : primes) {
            m = m.multiply(BigInteger.valueOf(p));
        }
        due("bits of M", m.bitLength(), 192);
        BigInteger edge = m.subtract(BigInteger.ONE).shiftRight(1).sqrt();
        Pair x = joined(edge.toString(), primes);
        is(x, x.recover(), edge.toString());
        x = joined("-" + edge, primes);
        is(x, x.recover(), "-" + edge);
        // v at its edge too: the least u that has nothing in common with it.
        BigInteger below = edge.subtract(BigInteger.ONE);
        BigInteger j = below.multiply(edge.modInverse(m)).mod(m);
        x = joined(j.toString(), primes);
        is(x, x.recover(), below + "/" + edge);
        BigInteger behind = edge.add(BigInteger.ONE);
        due("behind the edge", joined(behind.toString(), primes).recover(), NONE);
        due("behind the edge", joined(behind.modInverse(m).toString(), primes).recover(), NONE);
    }

    // ---- 18 rest

    @Sentence("rest: The REST of a NUMBER by a prime. (of the widest)")
    static void restOfTheWidest() {
        Pair x = pair(1);
        BigInteger p = BigInteger.valueOf(GREATEST);
        BigInteger below = TOP.subtract(BigInteger.ONE);
        int due = TOP.multiply(below.modInverse(p)).mod(p).intValue();
        due("top by top - 1", x.rest(number(x, "top/top-1"), GREATEST), due);
        due("its minus", x.rest(number(x, "-top/top-1"), GREATEST), GREATEST - due);
    }

    @Sentence("rest: BAD: no NUMBER")
    static void restOfNoNumber() {
        Pair x = pair(1);
        due("none", x.rest(0, 7), BAD);
        x.value(1, 1);
        for (int a : new int[] {LEAST, -1, 1, 40, MOST}) {
            due("NUMBER " + a, x.rest(a, 7), BAD);
        }
    }

    @Sentence("rest: BAD: .. p is no prime (0, 1, below 0)")
    static void restByLessThanAPrime() {
        Pair x = pair(1);
        x.value(1, 1);
        for (int p : new int[] {LEAST, LEAST + 1, -7, -3, -2, -1, 0, 1}) {
            due("by " + p, x.rest(0, p), BAD);
        }
        due("by 2", x.rest(0, 2), 1);
        due("by 3", x.rest(0, 3), 1);
    }

    @Sentence("rest: BAD: .. p is no prime (squares, products of two near the end of int)")
    static void restByProducts() {
        Pair x = pair(1);
        x.value(1, 1);
        for (int p : new int[] {4, 6, 9, 15, 21, 25, 49, 121, 10403, 46337 * 46337, 46337 * 46327,
            2147483646, 2147483645, 2147483641, 561, 1105, 2047, 1373653, 25326001}) {
            due("by " + p, x.rest(0, p), BAD);
        }
        for (int p : new int[] {5, 7, 11, 46337, 46349, THIRD, SECOND, GREATEST}) {
            due("by " + p, x.rest(0, p), 1);
        }
    }

    @Sentence("rest: ZERO: v is a multiple of it.")
    static void restOfAMultipleUnder() {
        Pair x = pair(1);
        int a = number(x, "1/6");
        due("by 2", x.rest(a, 2), ZERO);
        due("by 3", x.rest(a, 3), ZERO);
        due("by 5", x.rest(a, 5), 1);
        due("by itself", x.rest(number(x, "-5/2147483647"), GREATEST), ZERO);
        due("of many", x.rest(number(x, "1/3^121"), 3), ZERO);
        // In lowest terms v is 1.
        due("6/3 by 3", x.rest(x.value(6, 3), 3), 2);
        due("0/3 by 3", x.rest(x.value(0, 3), 3), 0);
    }

    // ---- 19 meet

    @Sentence("meet: M becomes M times a prime")
    static void meetMakesM() {
        Pair x = pair(1);
        x.meet(2, 0);
        joinedIs(x, "0", "2");
        x.meet(GREATEST, 0);
        joinedIs(x, "0", "4294967294");
        x.meet(SECOND, 0);
        joinedIs(x, "0", BigInteger.valueOf(4294967294L).multiply(BigInteger.valueOf(SECOND)).toString());
    }

    @Sentence("meet: J the least number, 0 or above, that is J less or more multiples of M (as they were) and r "
        + "more than a multiple of p")
    static void meetMakesTheLeastJ() {
        Pair x = pair(1);
        x.meet(3, 2);
        joinedIs(x, "2", "3");
        x.meet(5, 2);
        joinedIs(x, "2", "15");
        x.meet(2, 1);
        joinedIs(x, "17", "30");
        x.meet(7, 3);
        joinedIs(x, "17", "210");
        // The greatest J that there can be, M - 1.
        x.part();
        x.meet(3, 2);
        x.meet(5, 4);
        x.meet(2, 1);
        joinedIs(x, "29", "30");
        x.meet(GREATEST, GREATEST - 1);
        joinedIs(x, String.valueOf(30L * GREATEST - 1), String.valueOf(30L * GREATEST));
        x.part();
        x.meet(7, 0);
        x.meet(11, 0);
        joinedIs(x, "0", "77");
    }

    @Sentence("meet: how many primes there are.")
    static void meetCounts() {
        Pair x = pair(1);
        int[] primes = {2, 3, 5, 7, 11, 13, 17, 19, 23, 29, 31, 37, 41, 43, 47, 53, 59, 61, 67, 71, 73, 79, 83, 89,
            97, 101, 103, 107, 109, 113, 127, 131, 137, 139, 149, 151, 157, 163};
        BigInteger m = BigInteger.ONE;
        int there = 0;
        for (int p : primes) {
            m = m.multiply(BigInteger.valueOf(p));
            there += m.bitLength() <= 192 ? 1 : 0;
            due("with " + p, x.meet(p, p - 1), m.bitLength() <= 192 ? there : GREW);
            due("primes", x.count(1), there);
        }
        due("some are refused", there < primes.length, true);
    }

    @Sentence("meet: BAD: p is no prime")
    static void meetOfNoPrime() {
        Pair x = pair(1);
        for (int p : new int[] {LEAST, -5, -1, 0, 1, 4, 9, 2047, 46337 * 46337, 2147483646}) {
            due("p is " + p, x.meet(p, 0), BAD);
        }
        joinedIs(x, "0", "1");
    }

    @Sentence("meet: BAD: .. r not 0 .. p - 1")
    static void meetOfNoRest() {
        Pair x = pair(1);
        for (int p : new int[] {2, 3, 101, SECOND}) {
            for (int r : new int[] {LEAST, -1, p, p + 1, MOST}) {
                due(r + " by " + p, x.meet(p, r), BAD);
            }
        }
        due("by the greatest", x.meet(GREATEST, MOST), BAD);
        due("by the greatest", x.meet(GREATEST, -1), BAD);
        due("the most", x.meet(GREATEST, MOST - 1), 1);
        due("the least", x.meet(2, 0), 2);
        due("the most", x.meet(3, 2), 3);
    }

    @Sentence("meet: STATE: M is a multiple of p")
    static void meetAgain() {
        Pair x = pair(1);
        x.meet(7, 3);
        x.meet(2, 1);
        due("the same", x.meet(7, 3), STATE);
        due("another r", x.meet(7, 4), STATE);
        due("another", x.meet(2, 0), STATE);
        joinedIs(x, "3", "14");
        x.part();
        due("parted", x.meet(7, 4), 1);
    }

    @Sentence("meet: GREW: M would not be WIDE.")
    static void meetThatGrew() {
        // Six of 31 bits, 186 in all: 61 more than 6 bits fit, 67 do not.
        int[] primes = {GREATEST, SECOND, THIRD, 2147483579, 2147483563, 2147483549};
        Pair x = joined("123456789", primes);
        due("by 67", x.meet(67, 0), GREW);
        due("by a wide one", x.meet(2147483543, 0), GREW);
        due("counted", x.count(3), 2);
        due("primes", x.count(1), 6);
        due("by 61", x.meet(61, 5), 7);
        is(x, x.joined(0), x.model().j.toString());
        due("bits", x.about(x.joined(1), 3), 193);
        due("by 2", x.meet(2, 0), GREW);
    }

    // ---- 20 joined

    @Sentence("joined: J (what = 0), M (1) as a NUMBER: its number.")
    static void joinedAsNumbers() {
        Pair x = pair(1);
        x.meet(5, 4);
        due("J", x.joined(0), 0);
        due("M", x.joined(1), 1);
        x.meet(3, 0);
        is(x, 0, "4");
        is(x, 1, "5");
        joinedIs(x, "9", "15");
    }

    @Sentence("joined: BAD")
    static void joinedOfNothing() {
        Pair x = pair(1);
        for (int what : new int[] {LEAST, -1, 2, 3, MOST}) {
            due("what " + what, x.joined(what), BAD);
        }
        due("NUMBERS", x.count(0), 0);
    }

    @Sentence("joined: FULL.")
    static void joinedFull() {
        Pair x = pair(1);
        fillNumbers(x);
        due("J", x.joined(0), FULL);
        due("M", x.joined(1), FULL);
        x.drop();
        due("the last place", x.joined(1), 39);
        is(x, 39, "1");
    }

    // ---- 21 recover

    @Sentence("recover: THE FRACTION TOLD as a NUMBER: its number.")
    static void recoverAsANumber() {
        Pair x = pair(1);
        x.value(9, 1);
        int a = number(x, "-22/7");
        for (int p : new int[] {101, 97}) {
            x.meet(p, x.rest(a, p));
        }
        due("its number", x.recover(), 2);
        is(x, 2, "-22/7");
        joinedIs(x, x.model().j.toString(), "9797");
    }

    @Sentence("recover: FULL")
    static void recoverFull() {
        Pair x = pair(1);
        x.meet(3, 1);
        fillNumbers(x);
        due("full", x.recover(), FULL);
        x.drop();
        due("the last place", x.recover(), 39);
        is(x, 39, "1");
    }

    @Sentence("recover: NONE: there is none.")
    static void recoverNone() {
        Pair x = pair(1);
        due("M is 1", x.recover(), NONE);
        x.meet(2, 0);
        due("M is 2", x.recover(), NONE);
        x.meet(3, 2);
        due("2 by 6", x.recover(), NONE);
        x.part();
        // Of 2 u u below 7 there are - 1, 0, 1 alone, and v is 1.
        x.meet(7, 2);
        due("2 by 7", x.recover(), NONE);
        due("NUMBERS", x.count(0), 0);
    }

    @Sentence("(There is one at most.) (of what is not in lowest terms there is none)")
    static void recoverOnlyLowestTerms() {
        // Of each J by M the model tells the same, each u and v of 30 tried by hand here.
        for (int j = 0; j < 30; j++) {
            Pair x = joined(String.valueOf(j), 2, 3, 5);
            int found = 0;
            for (int v = 1; v <= 3; v++) {
                for (int u = -3; u <= 3; u++) {
                    boolean lowest = BigInteger.valueOf(u).gcd(BigInteger.valueOf(v)).intValue() == 1;
                    if (lowest && Math.floorMod(v * j - u, 30) == 0) {
                        found++;
                        is(x, x.recover(), u + "/" + v);
                    }
                }
            }
            due("one at most", found <= 1, true);
            due("none", found == 0 ? x.recover() : NONE, NONE);
        }
    }

    // ---- 22 part

    @Sentence("part: J is 0, M is 1: how many primes there were.")
    static void partOfSomeAndOfNone() {
        Pair x = pair(1);
        due("none", x.part(), 0);
        x.meet(GREATEST, 5);
        x.meet(SECOND, 6);
        x.meet(2, 1);
        due("three", x.part(), 3);
        joinedIs(x, "0", "1");
        due("primes", x.count(1), 0);
        due("none", x.part(), 0);
        due("one again", x.meet(GREATEST, 7), 1);
        joinedIs(x, "7", "2147483647");
    }
}
