/** The sentences of 'Terms' about DETERMINANTS. */
public final class BoundsOfDeterminantsTest extends Checks {
    public static void main(String[] args) throws IllegalAccessException {
        runAll(BoundsOfDeterminantsTest.class);
    }

    private static void all(Pair x, String written) {
        for (int way = 0; way < 3; way++) {
            determinantIs(x, way, written);
        }
    }

    private static void allGrow(Pair x) {
        int had = x.count(0);
        for (int way = 0; way < 3; way++) {
            due("DETERMINANT by WAY " + way, x.determinant(way), GREW);
            due("GREW so far", x.count(3), way + 1);
        }
        due("no NUMBER comes of it", x.count(0), had);
    }

    @Sentence("A DETERMINANT by WAY 0, 1: ELIMINATION by it (what GREW there)")
    static void eliminationThatGrew() {
        String[][] growing = {{"1/2 0 0", "2^191 1 0"}, {"1 2^191 0", "2 top 0"}, {"1 -1 0", "1 top 0"}};
        for (String[] given : growing) {
            Pair x = rows(given);
            due("WAY 0", x.determinant(0), GREW);
            due("WAY 1", x.determinant(1), GREW);
            due("GREW", x.count(3), 2);
        }
        determinantIs(rows("1/2 0 0", "2^191 1 0"), 2, "1/2");
        determinantIs(rows("1 -1 0", "1 top-1 0"), 1, "top");
    }

    @Sentence("ELIMINATION by it (WAY 1 does not grow where WAY 0 does)")
    static void eliminationByItsWay() {
        Pair x = rows("1/2^100 2^95 0", "1 0 0");
        due("WAY 0", x.determinant(0), GREW);
        determinantIs(x, 1, "-2^95");
        determinantIs(x, 2, "-2^95");
    }

    @Sentence("without RIGHT sides")
    static void withoutRightSides() {
        Pair x = rows("1 0 2^191", "2 1 top");
        due("with them", x.solve(0), GREW);
        all(x, "1");
        due("GREW", x.count(3), 1);
    }

    @Sentence("then the PIVOTS' product in their order")
    static void productInOrder() {
        allGrow(rows("2^100 0 0 0", "0 2^100 0 0", "0 0 1/2^50 0"));
        all(rows("2^100 0 0 0", "0 1/2^50 0 0", "0 0 2^100 0"), "2^150");
        all(rows("1/2^50 0 0 0", "0 2^100 0 0", "0 0 2^100 0"), "2^150");
    }

    @Sentence("then the PIVOTS' product (that GREW, or just did not)")
    static void productAtTheEdge() {
        allGrow(rows("2^96 0 0", "0 2^96 0"));
        allGrow(rows("1/2^96 0 0", "0 -1/2^96 0"));
        all(rows("2^96+1 0 0", "0 2^96-1 0"), "top");
        all(rows("2^96+1 0 0", "0 -2^96-1 0"), "-top");
        all(rows("1/2^96+1 0 0", "0 1/2^96-1 0"), "1/top");
        all(rows("top 5"), "top");
    }

    @Sentence("(0, if a column is FREE)")
    static void zeroByAFreeColumn() {
        all(rows("2^100 0 0 0", "0 2^100 0 0", "0 0 0 0"), "0");
        all(rows("0 2^100 0 0", "0 0 2^100 0", "0 0 0 0"), "0");
        all(rows("1 2 3 0", "4 5 6 0", "7 8 9 0"), "0");
        all(rows("0 9"), "0");
    }

    @Sentence("(0, if a column is FREE) (the ELIMINATION comes first, and GREW)")
    static void freeColumnAndGrowth() {
        Pair x = rows("1/2 0 0", "2^191 0 0");
        due("WAY 0", x.determinant(0), GREW);
        due("WAY 1", x.determinant(1), GREW);
        determinantIs(x, 2, "0");
        // The FREE column stands ahead of the one in which it grows.
        x = rows("0 1/2 0 0", "0 2^191 0 0", "0 0 1 0");
        due("WAY 0", x.determinant(0), GREW);
        due("WAY 1", x.determinant(1), GREW);
        determinantIs(x, 2, "0");
    }

    @Sentence("times - 1, if rows that were unlike ones changed places an odd number of times")
    static void oddChanges() {
        all(rows("1 0 0", "0 1 0"), "1");
        all(rows("0 1 0", "1 0 0"), "-1");
        all(rows("0 1 0 0", "0 0 1 0", "1 0 0 0"), "1");
        all(rows("0 0 1 0", "0 1 0 0", "1 0 0 0"), "-1");
        all(rows("0 0 0 1 0", "0 0 1 0 0", "0 1 0 0 0", "1 0 0 0 0"), "1");
        all(rows("0 top 0", "1 0 0"), "-top");
        all(rows("0 -top 0", "1 0 0"), "top");
    }

    @Sentence("for each order of the columns (of n ROWS, each alone)")
    static void eachOrderAlone() {
        for (int n = 1; n <= 5; n++) {
            eachOrder(new int[n], 0, n);
        }
    }

    private static void eachOrder(int[] order, int i, int n) {
        if (i == n) {
            oneOrder(order, n);
            return;
        }
        for (int column = 0; column < n; column++) {
            boolean taken = false;
            for (int k = 0; k < i; k++) {
                taken |= order[k] == column;
            }
            if (!taken) {
                order[i] = column;
                eachOrder(order, i + 1, n);
            }
        }
    }

    private static void oneOrder(int[] order, int n) {
        Pair x = pair(n);
        int falls = 0;
        for (int i = 0; i < n; i++) {
            x.entry(i, order[i], i + 2, 1);
            for (int k = i + 1; k < n; k++) {
                falls += order[i] > order[k] ? 1 : 0;
            }
        }
        int[] products = {1, 2, 6, 24, 120, 720};
        all(x, (falls % 2 == 0 ? "" : "-") + products[n]);
    }

    @Sentence("the least first (column of row 0, then of row 1, and so on)")
    static void leastOrderFirst() {
        // top, 1 more, 1 less: orders 012, 021, 102.
        due("grows", rows("1 1 0 0", "1 top -1 0", "0 1 1 0").determinant(2), GREW);
        determinantIs(rows("1 -1 0 0", "1 top 1 0", "0 1 1 0"), 2, "top");
        // Orders 021, 120, 201: of the last two each is the other turned round.
        due("grows", rows("-top 1 -1 0", "1 0 1 0", "1 1 0 0").determinant(2), GREW);
        determinantIs(rows("-top -1 1 0", "1 0 1 0", "1 1 0 0"), 2, "top");
    }

    @Sentence("in which no ENTRY is 0")
    static void ordersWithZeroAreLeft() {
        // The product of rows 0 and 1 would grow ahead of the 0 in row 2.
        determinantIs(rows("2^100 1 0 0", "0 2^100 1 0", "1 0 0 0"), 2, "1");
        determinantIs(rows("2^100 0 0 0", "0 2^100 0 0", "0 0 0 0"), 2, "0");
        determinantIs(rows("0 1 0 0", "0 2^100 0 0", "2^100 0 0 0"), 2, "0");
    }

    @Sentence("the product of its ENTRIES from row 0 on")
    static void productFromRowZero() {
        due("grows", rows("0 2^100 0 0", "2^100 0 0 0", "0 0 1/2^50 0").determinant(2), GREW);
        determinantIs(rows("0 2^100 0 0", "1/2^50 0 0 0", "0 0 2^100 0"), 2, "-2^150");
    }

    @Sentence("it is added to the sum so far (0 at first), or, when the order has an odd number of pairs that "
        + "fall, taken from it")
    static void addedOrTaken() {
        determinantIs(rows("2 3 0", "5 7 0"), 2, "-1");
        due("top and 1", rows("top -1 0", "1 1 0").determinant(2), GREW);
        determinantIs(rows("top-1 -1 0", "1 1 0"), 2, "top");
        due("- top less 1", rows("top 1 0", "1 -1 0").determinant(2), GREW);
        determinantIs(rows("top 1 0", "1 1 0"), 2, "top-1");
    }

    @Sentence("What GREW on the way ends it. (though the DETERMINANT itself is WIDE)")
    static void growthEndsIt() {
        // 2^200 less 2^200, and the NUMBER that was to be made is the next one still.
        Pair x = rows("2^100 2^100 0", "2^100 2^100 0");
        due("WAY 2", x.determinant(2), GREW);
        due("GREW", x.count(3), 1);
        determinantIs(x, 0, "0");
        due("its number", x.value(1, 1), 0);
    }
}
