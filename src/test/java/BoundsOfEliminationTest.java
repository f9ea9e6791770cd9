/** The sentences of 'Terms' about ELIMINATION and what is SOLVED. */
public final class BoundsOfEliminationTest extends Checks {
    public static void main(String[] args) throws IllegalAccessException {
        runAll(BoundsOfEliminationTest.class);
    }

    /** The ROWS that the PIVOTS come from, in their order. */
    private static void pivots(Pair x, int way, int... from) {
        due("RANK by WAY " + way, x.solve(way), from.length);
        for (int k = 0; k < from.length; k++) {
            due("ROW of PIVOT " + k + " by WAY " + way, x.pivot(k, 1), from[k]);
        }
    }

    private static void columns(Pair x, int... columns) {
        for (int way = 0; way < 2; way++) {
            due("RANK by WAY " + way, x.solve(way), columns.length);
            for (int k = 0; k < columns.length; k++) {
                due("column of PIVOT " + k, x.pivot(k, 0), columns[k]);
            }
        }
    }

    private static void solves(Pair x, int answer) {
        due("solve(0)", x.solve(0), answer);
        due("solve(1)", x.solve(1), answer);
    }

    private static void grows(Pair x) {
        int had = x.count(3);
        solves(x, GREW);
        due("both are counted", x.count(3), had + 2);
        due("nothing is SOLVED", x.answers(), STATE);
    }

    // ---- ELIMINATION

    @Sentence("ELIMINATION by a WAY, on a copy of the ROWS")
    static void onACopy() {
        Pair x = rows("0 2 1", "4 6 3");
        for (int way = 0; way < 2; way++) {
            x.solve(way);
            x.determinant(way);
            entryIs(x, 0, 0, "0");
            entryIs(x, 0, 1, "2");
            entryIs(x, 0, 2, "1");
            entryIs(x, 1, 0, "4");
            entryIs(x, 1, 1, "6");
            entryIs(x, 1, 2, "3");
        }
    }

    @Sentence("on a copy of the ROWS (that GREW)")
    static void onACopyThatGrew() {
        Pair x = rows("0 1 1 1", "1 1 2^191 1", "2 3 0 0");
        grows(x);
        entryIs(x, 0, 0, "0");
        entryIs(x, 1, 0, "1");
        entryIs(x, 1, 2, "2^191");
        entryIs(x, 2, 0, "2");
        entryIs(x, 2, 1, "3");
    }

    @Sentence("column j by column, from 0 on, t being how many PIVOTS there were so far")
    static void columnByColumn() {
        columns(rows("0 0 1 0", "0 1 0 0", "1 0 0 0"), 0, 1, 2);
        columns(rows("0 0 0 0", "0 0 0 0", "0 0 7 0"), 2);
    }

    @Sentence("of the rows at places t .. n - 1 whose ENTRY j is not 0 one is taken: by WAY 0 the first")
    static void wayZeroTheFirst() {
        pivots(rows("0 1 0 0", "9 0 0 0", "1 0 1 0"), 0, 1, 0, 2);
        pivots(rows("0 0 0 0", "0 0 0 0", "1/9 0 0 0"), 0, 2);
    }

    @Sentence("of the rows at places t .. n - 1 (that changed: not by their numbers)")
    static void firstByPlace() {
        pivots(rows("0 1 0 0", "0 1 1 0", "1 1 0 0"), 0, 2, 1, 0);
        pivots(rows("4 1 0 0", "0 1 1 0", "1 0 0 0"), 1, 2, 1, 0);
    }

    @Sentence("by WAY 1 that with the least SIZE of this ENTRY")
    static void wayOneTheLeastSize() {
        pivots(rows("4 0 0 0", "3/5 1 0 0", "-2 0 1 0"), 1, 2, 1, 0);
        // 1/8 is less than 7, but of 5 bits, not 4.
        pivots(rows("1/8 1 0", "7 0 0"), 1, 1, 0);
        // As it is by then: the 1 of ROW 1 has become 15/26.
        pivots(rows("1 11/13 0 0", "1/2 1 0 0", "0 3 1 0"), 1, 0, 2, 1);
    }

    @Sentence("of several the first")
    static void wayOneTheFirstOfSeveral() {
        pivots(rows("5 0 1 0", "3 1 0 0", "2 0 0 0"), 1, 1, 2, 0);
        pivots(rows("3 0 0", "-2 1 0"), 1, 0, 1);
        pivots(rows("-2 0 0", "3 1 0"), 1, 0, 1);
        pivots(rows("1/2 0 0", "3 1 0"), 1, 0, 1);
    }

    @Sentence("Without any the column is FREE.")
    static void freeColumns() {
        columns(rows("0 1 0 2", "0 0 1 3", "0 0 0 0"), 1, 2);
        columns(rows("1 0 0 1", "0 0 1 1", "0 0 0 0"), 0, 2);
        columns(rows("1 0 3 1", "0 1 4 1", "0 0 0 0"), 0, 1);
        columns(rows("0 0 0 0", "0 0 0 0", "0 0 0 0"));
        columns(rows("0 0 5 0", "0 0 3 0", "0 0 0 0"), 2);
    }

    @Sentence("Without any the column is FREE. (above place t it may be not 0, and what was not 0 may be 0 now)")
    static void freeForThePlacesLeft() {
        columns(rows("1 5 0 1", "2 10 1 0", "0 0 0 0"), 0, 2);
        columns(rows("1/3 1 1 1", "1/6 1/2 1 1", "1 3 5 1"), 0, 2);
    }

    @Sentence("the row changes places with the one at place t")
    static void rowsChangePlaces() {
        pivots(rows("0 1 0 0 0", "0 1 1 0 0", "1 0 0 0 0", "0 0 0 1 0"), 0, 2, 1, 0, 3);
    }

    @Sentence("f is this ENTRY by the PIVOT (what GREW there, though all that f is for is 0)")
    static void factorThatGrew() {
        grows(rows("1/2 0 0", "2^191 0 0"));
        grows(rows("2 0 0", "1/2^191 0 0"));
        solves(rows("1/2 0 0", "2^191-1 0 0"), 1);
        // f is top - 1 by 3 times top, in lowest terms.
        grows(rows("3 0 0", "top-1/top 0 0"));
    }

    @Sentence("ENTRY k becomes ENTRY k less f times ENTRY k (the product GREW, the difference would not)")
    static void productThatGrew() {
        grows(rows("1 2^191 0", "2 top 0"));
        Pair x = rows("1 2^191-1 0", "2 top 0");
        solves(x, 2);
        due("SIZE of 1", x.pivot(1, 2), 2);
        grows(rows("1 -2^191 0", "2 -top 0"));
        grows(rows("1 1/2^191 0", "1/2 1/2^191 0"));
    }

    @Sentence("ENTRY k becomes ENTRY k less f times ENTRY k (the difference GREW, the product did not)")
    static void differenceThatGrew() {
        grows(rows("1 -1 0", "1 top 0"));
        Pair x = rows("1 -1 0", "1 top-1 0");
        solves(x, 2);
        due("SIZE of top", x.pivot(1, 2), 193);
        grows(rows("1 1 0", "1 -top 0"));
        solves(rows("1 1 0", "1 -top-1 0"), 2);
        grows(rows("1 1/2^96 0", "1 1/2^96+1 0"));
    }

    @Sentence("of each k from j + 1 on (the last of them, the RIGHT side)")
    static void rightSideThatGrew() {
        grows(rows("1 0 -1", "1 1 top"));
        grows(rows("1 0 2^191", "2 1 top"));
        Pair x = rows("1 0 -1", "1 1 top-1");
        solves(x, 2);
        unknownIs(x, 1, "top");
        due("holds", x.holds(1), 1);
    }

    @Sentence("(a row whose ENTRY j is 0 stays as it is)")
    static void rowsWithZeroStay() {
        Pair x = rows("2 top 0", "0 top 0");
        solves(x, 2);
        due("SIZE of top", x.pivot(1, 2), 193);
    }

    @Sentence("by WAY 0 the first, by WAY 1 that with the least SIZE (which alone does not grow)")
    static void leastGrowth() {
        Pair x = rows("1/2^100 2^95 0", "1 0 0");
        due("WAY 0", x.solve(0), GREW);
        due("WAY 1", x.solve(1), 2);
        due("ROW", x.pivot(0, 1), 1);
        due("WAY 0", x.solve(0), GREW);
        due("nothing is SOLVED", x.answers(), STATE);
    }

    // ---- SOLVED

    @Sentence("RANK is how many PIVOTS there were.")
    static void rankFromNoneToAll() {
        String[] full = {"1 0 0 0 0 1", "0 1 0 0 0 1", "0 0 1 0 0 1", "0 0 0 1 0 1", "0 0 0 0 1 1"};
        for (int rank = 0; rank <= 5; rank++) {
            String[] given = full.clone();
            for (int i = rank; i < 5; i++) {
                given[i] = "0 0 0 0 0 0";
            }
            Pair x = rows(given);
            solves(x, rank);
            due("PIVOT " + rank, x.pivot(rank, 0), BAD);
            due("PIVOT before it", x.pivot(rank - 1, 0), rank - 1);
            due("answers", x.answers(), rank == 5 ? 1 : 2);
        }
        solves(rows("0 0"), 0);
        solves(rows("3 0"), 1);
    }

    @Sentence("If a row at place RANK or behind has a RIGHT side that is not 0, there are no answers.")
    static void noAnswers() {
        String[][] without = {{"1 1 1 0", "1 1 1 1", "1 1 1 0"}, {"1 1 1 0", "1 1 1 0", "1 1 1 1"},
            {"0 0 0 1/top", "0 0 0 0", "0 0 0 0"}, {"0 0 0 0", "0 0 0 0", "0 0 0 -1"},
            {"1 0 0 1", "0 1 0 1", "1 1 0 3"}};
        for (String[] given : without) {
            Pair x = rows(given);
            for (int way = 0; way < 2; way++) {
                due("RANK", x.solve(way) >= 0, true);
                due("answers", x.answers(), 0);
                due("unknown", x.unknown(0), STATE);
            }
        }
    }

    @Sentence("(RIGHT sides ahead of place RANK, or that have become 0, do not matter)")
    static void answersThoughRightSides() {
        String[][] with = {{"1 1 1 4", "2 2 2 8", "3 3 3 12"}, {"0 0 0 0", "0 0 0 0", "0 0 1 5"},
            {"1 0 0 1", "0 1 0 1", "1 1 0 2"}};
        for (String[] given : with) {
            Pair x = rows(given);
            for (int way = 0; way < 2; way++) {
                due("RANK", x.solve(way) >= 1, true);
                due("answers", x.answers(), 2);
                due("it holds", x.holds(2), 1);
            }
        }
    }

    @Sentence("Else unknowns of FREE columns are 0")
    static void unknownsOfFreeColumns() {
        Pair x = rows("0 2 top 6", "0 0 0 0", "0 2 top 6");
        solves(x, 1);
        unknownIs(x, 0, "0");
        unknownIs(x, 1, "3");
        unknownIs(x, 2, "0");
        // They were 5 and 7 before, and are 0 again.
        fillRows(x, "1 0 0 5", "0 1 0 6", "0 0 1 7");
        solves(x, 3);
        unknownIs(x, 2, "7");
        fillRows(x, "0 0 0 0", "0 1 0 6", "0 0 0 0");
        solves(x, 1);
        unknownIs(x, 0, "0");
        unknownIs(x, 1, "6");
        unknownIs(x, 2, "0");
    }

    @Sentence("the others, from the last PIVOT to the first")
    static void fromTheLastPivot() {
        Pair x = rows("1 1 1 1 10", "0 1 1 1 9", "0 0 1 1 7", "0 0 0 1 4");
        solves(x, 4);
        for (int j = 0; j < 4; j++) {
            unknownIs(x, j, String.valueOf(j + 1));
        }
    }

    @Sentence("the RIGHT side less ENTRY k times unknown k (the product GREW, the difference would not)")
    static void wayBackProduct() {
        grows(rows("1 2^96 top", "0 1 2^96"));
        Pair x = rows("1 2^96+1 top", "0 1 2^96-1");
        solves(x, 2);
        unknownIs(x, 0, "0");
        grows(rows("1 1/2^96 1/top", "0 1 1/2^96"));
    }

    @Sentence("the RIGHT side less ENTRY k times unknown k (the difference GREW)")
    static void wayBackDifference() {
        grows(rows("1 1 -top", "0 1 1"));
        grows(rows("1 1 top", "0 1 -1"));
        // By 2 it would be WIDE again.
        grows(rows("2 1 top", "0 1 -1"));
        Pair x = rows("1 1 -top-1", "0 1 1");
        solves(x, 2);
        unknownIs(x, 0, "-top");
    }

    @Sentence("for each k behind the PIVOT's column, rising")
    static void wayBackRising() {
        grows(rows("1 -1 1 top", "0 1 0 1", "0 0 1 1"));
        Pair x = rows("1 1 -1 top", "0 1 0 1", "0 0 1 1");
        solves(x, 3);
        unknownIs(x, 0, "top");
    }

    @Sentence("then that by the PIVOT")
    static void wayBackByThePivot() {
        grows(rows("1/2 2^191"));
        grows(rows("2 1/2^191"));
        Pair x = rows("1/2 2^191-1");
        solves(x, 1);
        unknownIs(x, 0, "2^192-2");
        x = rows("-1/3 1/7");
        solves(x, 1);
        unknownIs(x, 0, "-3/7");
    }

    @Sentence("Whatever GREW on the way ends it all. (though there would be no answers)")
    static void growthEndsItAll() {
        grows(rows("1 -1 0 0", "1 top 0 0", "0 0 0 1"));
        // The first unknown alone would grow; those behind it are not told either.
        Pair x = rows("1/2 0 2^191", "0 1 1");
        grows(x);
        due("unknown 1", x.unknown(1), STATE);
        due("PIVOT 1", x.pivot(1, 0), STATE);
        due("holds", x.holds(1), STATE);
    }

    @Sentence("(without answers there is no way back on which anything could grow)")
    static void noWayBackWithoutAnswers() {
        Pair x = rows("1/2 0 2^191", "0 0 1");
        solves(x, 1);
        due("no answers", x.answers(), 0);
        due("nothing GREW", x.count(3), 0);
    }
}
