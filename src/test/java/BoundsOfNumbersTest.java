/** The sentences of promises 1 to 8. */
public final class BoundsOfNumbersTest extends Checks {
    public static void main(String[] args) throws IllegalAccessException {
        runAll(BoundsOfNumbersTest.class);
    }

    // ---- 1 A new object

    @Sentence("FractionRows: n ROWS, 1 .. 5")
    static void rowsAsAsked() {
        for (int n = 1; n <= 5; n++) {
            due("ROWS", pair(n).count(2), n);
        }
    }

    @Sentence("FractionRows: (others as the nearest) (too few)")
    static void tooFewRows() {
        for (int n : new int[] {0, -1, -5, LEAST}) {
            Pair x = pair(n);
            due("ROWS of " + n, x.count(2), 1);
            due("ROW 0", x.entry(0, 1, 1, 1), 1);
            due("ROW 1", x.entry(1, 0, 1, 1), BAD);
        }
    }

    @Sentence("FractionRows: (others as the nearest) (too many)")
    static void tooManyRows() {
        for (int n : new int[] {6, 7, 100, MOST}) {
            Pair x = pair(n);
            due("ROWS of " + n, x.count(2), 5);
            due("ROW 4", x.entry(4, 5, 1, 1), 1);
            due("ROW 5", x.entry(5, 0, 1, 1), BAD);
            due("ENTRY 6", x.entry(0, 6, 1, 1), BAD);
        }
    }

    @Sentence("FractionRows: no NUMBERS.")
    static void noNumbersAtFirst() {
        Pair x = pair(5);
        due("NUMBERS", x.count(0), 0);
        due("NUMBER 0", x.about(0, 0), BAD);
        due("drop", x.drop(), STATE);
        due("the first", x.value(1, 1), 0);
    }

    // ---- 2 value

    @Sentence("value: u / v: its number.")
    static void valueAtTheEndsOfLong() {
        Pair x = pair(1);
        long[] ends = {Long.MIN_VALUE, Long.MIN_VALUE + 1, -1, 1, Long.MAX_VALUE};
        for (long u : ends) {
            for (long v : ends) {
                is(x, x.value(u, v), u + "/" + v);
            }
        }
        due("its number", x.value(0, Long.MAX_VALUE), 25);
        is(x, 25, "0");
    }

    @Sentence("value: ZERO: v is 0.")
    static void valueByZero() {
        Pair x = pair(1);
        for (long u : new long[] {Long.MIN_VALUE, -1, 0, 1, Long.MAX_VALUE}) {
            due(u + " by 0", x.value(u, 0), ZERO);
        }
        due("NUMBERS", x.count(0), 0);
    }

    @Sentence("value: FULL.")
    static void valueFull() {
        Pair x = pair(1);
        fillNumbers(x);
        due("NUMBER 40", x.value(1, 1), FULL);
        x.drop();
        due("NUMBER 39", x.value(1, 1), 39);
        due("NUMBER 40", x.value(0, 1), FULL);
    }

    // ---- 3 act

    @Sentence("act: Sum (op = 0), difference (1), product (2), quotient (3) of two NUMBERS: its number.")
    static void actOfTheSameNumber() {
        Pair x = pair(1);
        int a = number(x, "-3/4");
        int b = number(x, "5/6");
        String[] due = {"1/12", "-19/12", "-5/8", "-9/10"};
        String[] turned = {"1/12", "19/12", "-5/8", "-10/9"};
        String[] same = {"-3/2", "0", "9/16", "1"};
        for (int op = 0; op < 4; op++) {
            due("its number", x.act(op, a, b), 2 + 3 * op);
            is(x, 2 + 3 * op, due[op]);
            is(x, x.act(op, b, a), turned[op]);
            is(x, x.act(op, a, a), same[op]);
        }
    }

    @Sentence("act: BAD: another op")
    static void actOfAnotherOp() {
        Pair x = pair(1);
        x.value(1, 1);
        for (int op : new int[] {LEAST, -1, 4, 5, MOST}) {
            due("op " + op, x.act(op, 0, 0), BAD);
        }
        due("op 3", x.act(3, 0, 0), 1);
    }

    @Sentence("act: BAD: no NUMBERS")
    static void actWithoutNumbers() {
        Pair x = pair(1);
        due("none", x.act(0, 0, 0), BAD);
        x.value(1, 1);
        for (int op = 0; op < 4; op++) {
            for (int a : new int[] {LEAST, -1, 1, 39, 40, MOST}) {
                due("a is " + a, x.act(op, a, 0), BAD);
                due("b is " + a, x.act(op, 0, a), BAD);
            }
        }
        due("NUMBERS", x.count(0), 1);
    }

    @Sentence("act: FULL")
    static void actFull() {
        Pair x = pair(1);
        fillNumbers(x);
        for (int op = 0; op < 4; op++) {
            due("op " + op, x.act(op, 0, 39), FULL);
        }
        x.drop();
        due("the last place", x.act(0, 38, 38), 39);
        is(x, 39, "7");
    }

    @Sentence("act: ZERO: b is 0, of 3")
    static void actByZero() {
        Pair x = pair(1);
        int a = number(x, "5");
        int zero = number(x, "0");
        due("5 by 0", x.act(3, a, zero), ZERO);
        due("0 by 0", x.act(3, zero, zero), ZERO);
        is(x, x.act(3, zero, a), "0");
        is(x, x.act(0, a, zero), "5");
        is(x, x.act(1, a, zero), "5");
        is(x, x.act(2, a, zero), "0");
    }

    @Sentence("act: GREW")
    static void actThatGrew() {
        Pair x = pair(1);
        int top = number(x, "top");
        int less = number(x, "-top");
        int half = number(x, "1/2");
        due("sum", x.act(0, top, half), GREW);
        due("difference", x.act(1, top, less), GREW);
        due("product", x.act(2, top, less), GREW);
        due("quotient", x.act(3, less, half), GREW);
        due("NUMBERS", x.count(0), 3);
        due("GREW", x.count(3), 4);
        is(x, x.act(0, top, less), "0");
    }

    // ---- 4 quotient

    @Sentence("quotient: The quotient, likewise.")
    static void quotientLikewise() {
        Pair x = pair(1);
        String[] written = {"-3/4", "5/6", "top", "-1/top", "top/top-1"};
        for (String each : written) {
            number(x, each);
        }
        for (int a = 0; a < written.length; a++) {
            for (int b = 0; b < written.length; b++) {
                int made = x.quotient(a, b);
                int same = x.act(3, a, b);
                due("GREW alike", made >= 0, same >= 0);
                due("the same", made < 0 ? 0 : x.compare(made, same), 0);
                dropTo(x, written.length);
            }
        }
    }

    @Sentence("quotient: BAD")
    static void quotientWithoutNumbers() {
        Pair x = pair(1);
        due("none", x.quotient(0, 0), BAD);
        x.value(0, 1);
        for (int a : new int[] {LEAST, -1, 1, 39, 40, MOST}) {
            due("a is " + a, x.quotient(a, 0), BAD);
            due("b is " + a, x.quotient(0, a), BAD);
        }
    }

    @Sentence("quotient: FULL.")
    static void quotientFull() {
        Pair x = pair(1);
        fillNumbers(x);
        due("full", x.quotient(0, 1), FULL);
        x.drop();
        due("the last place", x.quotient(0, 1), 39);
    }

    @Sentence("quotient: ArithmeticException: b is 0.")
    static void quotientByZero() {
        Pair x = pair(1);
        int zero = number(x, "0");
        int a = number(x, "-5/3");
        due("by 0", x.quotient(a, zero), THROWN);
        due("0 by 0", x.quotient(zero, zero), THROWN);
        due("NUMBERS", x.count(0), 2);
        due("0 by a", x.quotient(zero, a), 2);
    }

    @Sentence("quotient: GREW.")
    static void quotientThatGrew() {
        Pair x = pair(1);
        int half = number(x, "1/2");
        due("2^192", x.quotient(number(x, "2^191"), half), GREW);
        due("1 by 2^192", x.quotient(number(x, "1/2^191"), number(x, "2")), GREW);
        is(x, x.quotient(number(x, "2^191-1"), half), "2^192-2");
        due("GREW", x.count(3), 2);
    }

    // ---- 5 drop

    @Sentence("drop: The last NUMBER goes: how many are left.")
    static void dropFromFullToNone() {
        Pair x = pair(1);
        for (int a = 0; a < MOST_NUMBERS; a++) {
            x.value(a, 7);
        }
        for (int left = MOST_NUMBERS - 1; left >= 0; left--) {
            due("left", x.drop(), left);
            due("it is gone", x.about(left, 0), BAD);
            due("the one before it is not", x.about(left - 1, 0), left > 0 ? 0 : BAD);
        }
    }

    @Sentence("drop: STATE: there is none.")
    static void dropOfNone() {
        Pair x = pair(1);
        due("at first", x.drop(), STATE);
        x.value(1, 1);
        x.drop();
        due("again", x.drop(), STATE);
        due("NUMBERS", x.count(0), 0);
        due("the next is the first", x.value(1, 1), 0);
    }

    // ---- 6 compare

    @Sentence("compare: -1, 0, 1: a is below b, the same, above.")
    static void compareNeighbours() {
        String[] rising = {"-top", "-top-1", "-top/top-1", "-1", "-top-1/top", "-1/top-1", "-1/top", "0",
            "1/top", "1/top-1", "top-2/top-1", "top-1/top", "1", "top/top-1", "top-1/top-2", "top-1", "top"};
        for (int from = 0; from + 1 < rising.length; from++) {
            Pair x = pair(1);
            int a = number(x, rising[from]);
            int b = number(x, rising[from + 1]);
            due(rising[from] + " to " + rising[from + 1], x.compare(a, b), -1);
            due("turned", x.compare(b, a), 1);
            due("the same", x.compare(a, a), 0);
            due("the same", x.compare(b, number(x, rising[from + 1])), 0);
        }
    }

    @Sentence("compare: -2: no such NUMBERS.")
    static void compareWithoutNumbers() {
        Pair x = pair(1);
        due("none", x.compare(0, 0), -2);
        x.value(1, 1);
        for (int a : new int[] {LEAST, -1, 1, 39, 40, MOST}) {
            due("a is " + a, x.compare(a, 0), -2);
            due("b is " + a, x.compare(0, a), -2);
            due("both", x.compare(a, a), -2);
        }
        fillNumbers(x);
        due("39", x.compare(39, 39), 0);
        due("40", x.compare(39, 40), -2);
    }

    // ---- 7 about

    @Sentence("about: 0 whether it is below 0 (1, 0)")
    static void aboutBelow() {
        Pair x = pair(1);
        due("0", x.about(number(x, "0"), 0), 0);
        due("1/top", x.about(number(x, "1/top"), 0), 0);
        due("-1/top", x.about(number(x, "-1/top"), 0), 1);
        due("least", x.about(number(x, "-top"), 0), 1);
        due("0 less 0", x.about(x.act(1, 0, 0), 0), 0);
        due("0 times -1/top", x.about(x.act(2, 0, 2), 0), 0);
    }

    @Sentence("about: 1 how many LIMBS u has (of 32 bits, without 0s ahead)")
    static void aboutLimbsOfUpper() {
        Pair x = pair(1);
        for (int limbs = 1; limbs <= 6; limbs++) {
            int a = number(x, "2^" + (32 * limbs - 32));
            due("the least of " + limbs, x.about(a, 1), limbs);
            a = number(x, "-2^" + 32 * limbs + "-1");
            due("the most of " + limbs, x.about(a, 1), limbs);
            due("v", x.about(a, 2), 1);
        }
    }

    @Sentence("about: 2 v has (of 32 bits, without 0s ahead)")
    static void aboutLimbsOfLower() {
        Pair x = pair(1);
        for (int limbs = 1; limbs <= 6; limbs++) {
            int a = number(x, "-1/2^" + (32 * limbs - 32));
            due("the least of " + limbs, x.about(a, 2), limbs);
            due("u", x.about(a, 1), 1);
            a = number(x, "1/2^" + 32 * limbs + "-1");
            due("the most of " + limbs, x.about(a, 2), limbs);
        }
    }

    @Sentence("about: 0 has none")
    static void aboutLimbsOfZero() {
        Pair x = pair(1);
        int zero = number(x, "0");
        due("u of 0", x.about(zero, 1), 0);
        due("v of 0", x.about(zero, 2), 1);
        int a = number(x, "top");
        due("what became 0", x.about(x.act(1, a, a), 1), 0);
    }

    @Sentence("about: 3 its SIZE.")
    static void aboutSize() {
        Pair x = pair(1);
        due("-5/8", x.about(number(x, "-5/8"), 3), 7);
        due("2^191", x.about(number(x, "2^191"), 3), 193);
        due("2^191 - 1", x.about(number(x, "2^191-1"), 3), 192);
    }

    @Sentence("about: BAD.")
    static void aboutBad() {
        Pair x = pair(1);
        due("no NUMBER", x.about(0, 0), BAD);
        x.value(-1, 2);
        for (int bad : new int[] {LEAST, -1, 4, 5, MOST}) {
            due("what " + bad, x.about(0, bad), BAD);
            due("NUMBER " + bad, x.about(bad, 0), BAD);
        }
        due("NUMBER 1", x.about(1, 3), BAD);
        fillNumbers(x);
        due("NUMBER 39", x.about(39, 3), 5);
        due("NUMBER 40", x.about(40, 3), BAD);
    }

    // ---- 8 limb

    @Sentence("limb: LIMB k (the lowest first) of the size of u (part = 0), of v (1), as 32 bits.")
    static void limbsLowestFirst() {
        Pair x = pair(1);
        int a = number(x, "-2^191+5/2^160+7");
        int[] upper = {5, 0, 0, 0, 0, LEAST};
        int[] lower = {7, 0, 0, 0, 0, 1};
        for (int k = 0; k < 6; k++) {
            due("u " + k, x.limb(a, 0, k), upper[k]);
            due("v " + k, x.limb(a, 1, k), lower[k]);
        }
        int top = number(x, "-top");
        for (int k = 0; k < 6; k++) {
            due("all bits, " + k, x.limb(top, 0, k), -1);
        }
        due("2^32 - 1 as a bare int", x.limb(number(x, "4294967295"), 0, 0), -1);
    }

    @Sentence("limb: IndexOutOfBoundsException: no such NUMBER")
    static void limbOfNoNumber() {
        Pair x = pair(1);
        due("none", x.limb(0, 0, 0), THROWN);
        x.value(1, 1);
        for (int a : new int[] {LEAST, -1, 1, 40, MOST}) {
            due("NUMBER " + a, x.limb(a, 0, 0), THROWN);
        }
        due("NUMBER 0", x.limb(0, 0, 0), 1);
    }

    @Sentence("limb: IndexOutOfBoundsException: no such .. part")
    static void limbOfNoPart() {
        Pair x = pair(1);
        x.value(1, 3);
        for (int part : new int[] {LEAST, -1, 2, MOST}) {
            due("part " + part, x.limb(0, part, 0), THROWN);
        }
        due("part 1", x.limb(0, 1, 0), 3);
    }

    @Sentence("limb: IndexOutOfBoundsException: no such .. LIMB.")
    static void limbOfNoLimb() {
        Pair x = pair(1);
        int a = number(x, "2^64/2^96-1");
        for (int k : new int[] {LEAST, -1, 3, 5, 6, 15, 16, MOST}) {
            due("LIMB " + k + " of u", x.limb(a, 0, k), THROWN);
            due("LIMB " + k + " of v", x.limb(a, 1, k), THROWN);
        }
        due("LIMB 2 of u", x.limb(a, 0, 2), 1);
        due("LIMB 2 of v", x.limb(a, 1, 2), -1);
        due("0 has none", x.limb(number(x, "0"), 0, 0), THROWN);
        due("v of 0 has one", x.limb(1, 1, 0), 1);
        due("v of 0 has one", x.limb(1, 1, 1), THROWN);
        due("a LIMB 6", x.limb(number(x, "top"), 0, 6), THROWN);
    }
}
