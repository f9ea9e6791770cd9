/** The sentences of 'What it is' and 'Terms' about whole numbers, FRACTIONS, NUMBERS, SIZE and ROWS. */
public final class BoundsOfTermsTest extends Checks {
    public static void main(String[] args) throws IllegalAccessException {
        runAll(BoundsOfTermsTest.class);
    }

    // ---- What it is

    @Sentence("A whole number is WIDE, if its size is below 2^192. (above 0)")
    static void wideAbove() {
        Pair x = pair(1);
        int one = number(x, "1");
        int top = x.act(0, number(x, "top-1"), one);
        is(x, top, "top");
        due("2^192", x.act(0, top, one), GREW);
        is(x, x.act(2, number(x, "2^96+1"), number(x, "2^96-1")), "top");
        int middle = number(x, "2^96");
        due("2^192 as a product", x.act(2, middle, middle), GREW);
    }

    @Sentence("A whole number is WIDE, if its size is below 2^192. (below 0, its size counts)")
    static void wideBelow() {
        Pair x = pair(1);
        int one = number(x, "1");
        int least = x.act(1, number(x, "-top-1"), one);
        is(x, least, "-top");
        due("- 2^192", x.act(1, least, one), GREW);
        due("- 2^193", x.act(0, least, least), GREW);
    }

    @Sentence("A whole number is WIDE, if its size is below 2^192. (what lies under a FRACTION)")
    static void wideUnder() {
        Pair x = pair(1);
        int one = number(x, "1");
        int top = number(x, "top");
        is(x, x.act(3, one, top), "1/top");
        is(x, x.act(2, number(x, "1/2^96+1"), number(x, "1/2^96-1")), "1/top");
        int middle = number(x, "1/2^96");
        due("1 by 2^192", x.act(2, middle, middle), GREW);
        due("1 by 2^192", x.act(3, middle, number(x, "2^96")), GREW);
    }

    @Sentence("An object is used for at most 512 calls after it has been made; what later calls answer is free.")
    static void theLastOfAllCalls() {
        Pair x = pair(2);
        for (int k = 0; x.calls() < MOST_CALLS - MOST_NUMBERS - 3; k++) {
            x.entry(k % 2, k % 3, k % 7 - 3, 1 + k % 5);
            x.solve(k % 2);
        }
        fillNumbers(x);
        while (x.calls() < MOST_CALLS - 1) {
            x.count(0);
        }
        due("call 512", x.value(1, 1), FULL);
        due("calls", x.calls(), MOST_CALLS);
    }

    // ---- FRACTIONS

    @Sentence("A FRACTION is u / v in lowest terms")
    static void lowestTerms() {
        Pair x = pair(1);
        is(x, x.value(Long.MIN_VALUE, Long.MIN_VALUE), "1");
        is(x, x.value(Long.MIN_VALUE, 2), "-4611686018427387904");
        due("u of 6/4", x.show(x.value(6, 4)), "3/2");
        int sixth = number(x, "1/6");
        int third = number(x, "1/3");
        due("1/6 and 1/3", x.show(x.act(0, sixth, third)), "1/2");
        due("1/6 less 1/3", x.show(x.act(1, sixth, third)), "-1/6");
        due("2/3 times 3/2", x.show(x.act(2, number(x, "2/3"), number(x, "3/2"))), "1/1");
        due("2/3 by 4/3", x.show(x.act(3, number(x, "2/3"), number(x, "4/3"))), "1/2");
        x.entry(0, 0, -10, -4);
        due("an ENTRY", x.show(x.take(0, 0)), "5/2");
    }

    @Sentence("v above 0")
    static void lowerPartAboveZero() {
        Pair x = pair(1);
        is(x, x.value(3, -5), "-3/5");
        is(x, x.value(-3, -5), "3/5");
        is(x, x.value(1, Long.MIN_VALUE), "-1/2^63");
        is(x, x.value(-1, Long.MIN_VALUE), "1/2^63");
        is(x, x.act(3, number(x, "2"), number(x, "-7/3")), "-6/7");
        is(x, x.quotient(number(x, "-2"), number(x, "-7/3")), "6/7");
        x.entry(0, 0, 4, -6);
        entryIs(x, 0, 0, "-2/3");
    }

    @Sentence("(0 is 0 / 1)")
    static void zeroIsZeroByOne() {
        Pair x = pair(1);
        int a = number(x, "-5/7");
        x.entry(0, 0, 0, -9);
        int[] zeros = {x.value(0, -3), x.value(0, Long.MIN_VALUE), x.act(1, a, a), x.act(0, a, number(x, "5/7")),
            x.act(2, a, 1), x.act(3, 1, a), x.quotient(1, a), x.take(0, 0), x.determinant(0),
            x.determinant(2), x.joined(0)};
        for (int zero : zeros) {
            due("0", x.show(zero), "0/1");
            due("0 is not below 0", x.about(zero, 0), 0);
            due("the same as 0", x.compare(zero, zeros[0]), 0);
        }
    }

    @Sentence("it GREW, if u or v is not WIDE. (u alone)")
    static void grewByUpperPart() {
        Pair x = pair(1);
        int a = number(x, "top/2");
        is(x, x.act(2, a, number(x, "1/3")), "top/6");
        due("twice top, and half of it more", x.act(0, a, number(x, "top")), GREW);
        due("top times 5/2", x.act(2, a, number(x, "5")), GREW);
    }

    @Sentence("it GREW, if u or v is not WIDE. (v alone)")
    static void grewByLowerPart() {
        Pair x = pair(1);
        int a = number(x, "1/2^191");
        is(x, a, "1/2^191");
        due("a third of it", x.act(2, a, number(x, "1/3")), GREW);
        due("by 2", x.act(3, a, number(x, "2")), GREW);
        is(x, x.act(0, number(x, "1/2^96+1"), number(x, "1/2^96-1")), "2^97/top");
        due("v of a sum", x.act(0, number(x, "1/2^96"), number(x, "1/2^96+1")), GREW);
    }

    @Sentence("it GREW, if u or v is not WIDE. (neither, both at their most)")
    static void bothPartsAtTheirMost() {
        Pair x = pair(1);
        int above = x.act(3, number(x, "top"), number(x, "top-1"));
        is(x, above, "top/top-1");
        due("its square", x.act(2, above, above), GREW);
        is(x, x.act(3, above, above), "1");
        is(x, x.act(1, above, number(x, "1")), "1/top-1");
        due("and 1", x.act(0, above, number(x, "1")), GREW);
    }

    @Sentence("NUMBERS 0, 1, .. (40 at most) are FRACTIONS.")
    static void fortyNumbers() {
        Pair x = pair(1);
        for (int a = 0; a < MOST_NUMBERS; a++) {
            due("the next", x.value(a, 1), a);
        }
        due("no NUMBER 40", x.value(40, 1), FULL);
        for (int a = 0; a < MOST_NUMBERS; a++) {
            is(x, a, String.valueOf(a));
        }
        due("no NUMBER 40", x.about(40, 0), BAD);
    }

    @Sentence("A sum .. is made whole, then it GREW, or not.")
    static void sumMadeWhole() {
        Pair x = pair(1);
        // 2^192 by 2 in the end.
        is(x, x.act(0, number(x, "top/2"), number(x, "1/2")), "2^191");
        is(x, x.act(0, number(x, "-top/2"), number(x, "-1/2")), "-2^191");
        // The product of what lies under them has 382 bits.
        is(x, x.act(0, number(x, "1/3^120"), number(x, "2/3^120")), "1/3^119");
    }

    @Sentence("A .. difference .. is made whole, then it GREW, or not.")
    static void differenceMadeWhole() {
        Pair x = pair(1);
        is(x, x.act(1, number(x, "top/2"), number(x, "-1/2")), "2^191");
        is(x, x.act(1, number(x, "-top/2"), number(x, "1/2")), "-2^191");
        int a = number(x, "top/top-1");
        is(x, x.act(1, a, a), "0");
        is(x, x.act(1, number(x, "top"), number(x, "top-1")), "1");
    }

    @Sentence("A .. product .. is made whole, then it GREW, or not.")
    static void productMadeWhole() {
        Pair x = pair(1);
        is(x, x.act(2, number(x, "top/top-1"), number(x, "top-1/top")), "1");
        is(x, x.act(2, number(x, "-2^191/3^121"), number(x, "3^120/2^190")), "-2/3");
        is(x, x.act(2, number(x, "top"), number(x, "0")), "0");
    }

    @Sentence("A .. quotient of FRACTIONS is made whole, then it GREW, or not.")
    static void quotientMadeWhole() {
        Pair x = pair(1);
        int a = number(x, "top/top-1");
        is(x, x.act(3, a, a), "1");
        is(x, x.quotient(number(x, "-2^191/3^121"), number(x, "2^190/3^120")), "-2/3");
        is(x, x.act(3, number(x, "0"), number(x, "1/top")), "0");
    }

    @Sentence("SIZE of a FRACTION: how many bits the sizes of u and v have together")
    static void sizeTogether() {
        Pair x = pair(1);
        String[] written = {"1", "-1", "1/2", "2", "-7/8", "2^31-1", "2^31", "2^32-1", "2^32", "1/2^32",
            "-2^63", "2^64-1", "2^64", "2^191", "top", "1/top", "top/top-1"};
        int[] sizes = {2, 2, 3, 3, 7, 32, 33, 33, 34, 34, 65, 65, 66, 193, 193, 193, 384};
        for (int k = 0; k < written.length; k++) {
            due("SIZE of " + written[k], x.about(number(x, written[k]), 3), sizes[k]);
        }
    }

    @Sentence("(0 has none)")
    static void zeroHasNoBits() {
        Pair x = pair(1);
        due("of 0 / 1 the 1 has one", x.about(number(x, "0"), 3), 1);
    }

    // ---- ROWS

    @Sentence("ROWS 0 .. n - 1 have ENTRIES 0 .. n - 1 and a RIGHT side (ENTRY n)")
    static void placesOfEntries() {
        for (int n = 1; n <= 5; n++) {
            Pair x = pair(n);
            for (int i = -1; i <= n; i++) {
                for (int j = -1; j <= n + 1; j++) {
                    boolean is = i >= 0 && i < n && j >= 0 && j <= n;
                    due("ENTRY " + j + " of ROW " + i + " of " + n, x.entry(i, j, 10 * i + j, 1), is ? 1 : BAD);
                }
            }
            for (int i = 0; i < n; i++) {
                for (int j = 0; j <= n; j++) {
                    entryIs(x, i, j, String.valueOf(10 * i + j));
                }
            }
        }
    }

    @Sentence("FRACTIONS, all 0 at first")
    static void entriesZeroAtFirst() {
        for (int n = 1; n <= 5; n++) {
            Pair x = pair(n);
            for (int i = 0; i < n; i++) {
                for (int j = 0; j <= n; j++) {
                    entryIs(x, i, j, "0");
                }
            }
        }
    }

    @Sentence("ENTRY j times unknown j, all together, is the RIGHT side.")
    static void entriesTimesUnknowns() {
        Pair x = rows("1 2 3 14", "0 1 -1 -1", "2 0 1 5");
        due("RANK", x.solve(0), 3);
        unknownIs(x, 0, "1");
        unknownIs(x, 1, "2");
        unknownIs(x, 2, "3");
    }
}
