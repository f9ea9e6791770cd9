/** The sentences of promises 9 to 17. */
public final class BoundsOfRowsTest extends Checks {
    public static void main(String[] args) throws IllegalAccessException {
        runAll(BoundsOfRowsTest.class);
    }

    // ---- 9 entry

    @Sentence("entry: ENTRY j of a ROW becomes u / v: 1.")
    static void entryAtTheEndsOfLong() {
        Pair x = pair(2);
        long[] ends = {Long.MIN_VALUE, Long.MIN_VALUE + 1, -1, 0, 1, Long.MAX_VALUE};
        for (long u : ends) {
            for (long v : ends) {
                if (v != 0) {
                    due("entry", x.entry(1, 2, u, v), 1);
                    entryIs(x, 1, 2, u + "/" + v);
                }
            }
        }
    }

    @Sentence("entry: BAD")
    static void entryOfNoPlace() {
        Pair x = pair(3);
        for (int i : new int[] {LEAST, -1, 3, 4, 5, MOST}) {
            due("ROW " + i, x.entry(i, 0, 1, 1), BAD);
        }
        for (int j : new int[] {LEAST, -1, 4, 5, MOST}) {
            due("ENTRY " + j, x.entry(0, j, 1, 1), BAD);
            due("ENTRY " + j, x.entry(2, j, 1, 1), BAD);
        }
        due("the last of the last", x.entry(2, 3, 1, 1), 1);
    }

    @Sentence("entry: ZERO.")
    static void entryByZero() {
        Pair x = pair(1);
        x.entry(0, 0, 5, 3);
        due("1 by 0", x.entry(0, 0, 1, 0), ZERO);
        due("0 by 0", x.entry(0, 0, 0, 0), ZERO);
        due("least by 0", x.entry(0, 1, Long.MIN_VALUE, 0), ZERO);
        entryIs(x, 0, 0, "5/3");
        entryIs(x, 0, 1, "0");
    }

    // ---- 10 put

    @Sentence("put: ENTRY j of a ROW becomes a NUMBER: 1.")
    static void putTheWidest() {
        Pair x = pair(2);
        int a = number(x, "-top/top-1");
        due("put", x.put(0, 2, a), 1);
        due("put", x.put(1, 0, a), 1);
        entryIs(x, 0, 2, "-top/top-1");
        entryIs(x, 1, 0, "-top/top-1");
        entryIs(x, 1, 2, "0");
    }

    @Sentence("put: (the ENTRY stays when the NUMBER goes, and the NUMBER when the ENTRY changes)")
    static void putIsACopy() {
        Pair x = pair(1);
        x.value(2, 3);
        x.put(0, 0, 0);
        x.entry(0, 0, 9, 1);
        is(x, 0, "2/3");
        x.put(0, 0, 0);
        x.drop();
        x.value(8, 1);
        x.drop();
        entryIs(x, 0, 0, "2/3");
    }

    @Sentence("put: BAD.")
    static void putBad() {
        Pair x = pair(2);
        due("no NUMBER", x.put(0, 0, 0), BAD);
        x.value(5, 1);
        for (int bad : new int[] {LEAST, -1, 3, MOST}) {
            due("ROW " + bad, x.put(bad, 0, 0), BAD);
            due("ENTRY " + bad, x.put(0, bad, 0), BAD);
            due("NUMBER " + bad, x.put(0, 0, bad), BAD);
        }
        due("ROW 2", x.put(2, 0, 0), BAD);
        due("NUMBER 1", x.put(0, 0, 1), BAD);
        for (int j = 0; j < 3; j++) {
            entryIs(x, 0, j, "0");
            entryIs(x, 1, j, "0");
        }
        fillNumbers(x);
        due("NUMBER 39", x.put(1, 2, 39), 1);
        due("NUMBER 40", x.put(1, 2, 40), BAD);
    }

    // ---- 11 take

    @Sentence("take: ENTRY j of a ROW as a NUMBER: its number.")
    static void takeEach() {
        Pair x = rows("1 2 3", "4 5 top/top-1");
        for (int k = 0; k < 5; k++) {
            due("its number", x.take(k / 3, k % 3), k);
            is(x, k, String.valueOf(k + 1));
        }
        is(x, x.take(1, 2), "top/top-1");
        x.entry(0, 0, 7, 1);
        is(x, 0, "1");
    }

    @Sentence("take: BAD")
    static void takeOfNoPlace() {
        Pair x = pair(3);
        for (int i : new int[] {LEAST, -1, 3, 4, MOST}) {
            due("ROW " + i, x.take(i, 0), BAD);
        }
        for (int j : new int[] {LEAST, -1, 4, 5, MOST}) {
            due("ENTRY " + j, x.take(0, j), BAD);
            due("ENTRY " + j, x.take(2, j), BAD);
        }
        due("the last of the last", x.take(2, 3), 0);
    }

    @Sentence("take: FULL.")
    static void takeFull() {
        Pair x = rows("3 4");
        fillNumbers(x);
        due("full", x.take(0, 0), FULL);
        x.drop();
        due("the last place", x.take(0, 1), 39);
        is(x, 39, "4");
    }

    // ---- 12 solve

    @Sentence("solve: ROWS are SOLVED by WAY 0, 1: RANK.")
    static void solveByEachWay() {
        for (int n = 1; n <= 5; n++) {
            Pair x = pair(n);
            due("of 0s", x.solve(0), 0);
            due("of 0s", x.solve(1), 0);
            for (int i = 0; i < n; i++) {
                x.entry(i, n - 1 - i, i + 1, 1);
                due("RANK", x.solve(0), i + 1);
                due("RANK", x.solve(1), i + 1);
            }
            due("answers", x.answers(), 1);
        }
    }

    @Sentence("solve: BAD")
    static void solveByNoWay() {
        Pair x = rows("2 6");
        for (int way : new int[] {LEAST, -1, 2, 3, MOST}) {
            due("WAY " + way, x.solve(way), BAD);
        }
        due("nothing is SOLVED", x.answers(), STATE);
        x.solve(1);
        for (int way : new int[] {LEAST, -1, 2, MOST}) {
            due("WAY " + way, x.solve(way), BAD);
        }
        unknownIs(x, 0, "3");
    }

    @Sentence("solve: GREW (nothing is SOLVED then).")
    static void solveThatGrew() {
        Pair x = rows("1 0 1", "0 1 1");
        for (int way = 0; way < 2; way++) {
            due("RANK", x.solve(way), 2);
            load(x, 0, 0, "1/2");
            load(x, 0, 2, "2^191");
            due("WAY " + way, x.solve(way), GREW);
            due("answers", x.answers(), STATE);
            due("unknown", x.unknown(0), STATE);
            due("pivot", x.pivot(0, 0), STATE);
            due("holds", x.holds(0), STATE);
            x.entry(0, 0, 1, 1);
            x.entry(0, 2, 1, 1);
        }
        due("again", x.solve(0), 2);
        due("answers", x.answers(), 1);
        due("GREW", x.count(3), 2);
    }

    // ---- 13 answers

    @Sentence("answers: Of what is SOLVED: 0 there are no answers, 1 one, 2 many.")
    static void answersOfEachKind() {
        for (int n = 1; n <= 5; n++) {
            Pair x = pair(n);
            x.solve(0);
            due("many", x.answers(), 2);
            x.entry(n - 1, n, 1, 1);
            x.solve(0);
            due("none", x.answers(), 0);
            for (int i = 0; i < n; i++) {
                x.entry(i, i, 2, 1);
            }
            x.solve(0);
            due("one", x.answers(), 1);
            x.entry(0, 0, 0, 1);
            x.solve(1);
            due("many, or none", x.answers(), n == 1 ? 0 : 2);
        }
    }

    @Sentence("answers: STATE: nothing is.")
    static void answersOfNothing() {
        Pair x = rows("1/2 2^191");
        due("at first", x.answers(), STATE);
        x.solve(0);
        due("what GREW", x.answers(), STATE);
        x.entry(0, 0, 1, 1);
        x.solve(0);
        due("one", x.answers(), 1);
        x.clear();
        due("cleared", x.answers(), STATE);
    }

    // ---- 14 unknown

    @Sentence("unknown: Unknown j as a NUMBER: its number.")
    static void unknownEach() {
        Pair x = rows("1 0 1", "0 top-1 top");
        x.solve(0);
        due("its number", x.unknown(0), 0);
        due("its number", x.unknown(1), 1);
        is(x, 0, "1");
        is(x, 1, "top/top-1");
    }

    @Sentence("unknown: STATE: nothing is SOLVED")
    static void unknownOfNothing() {
        Pair x = rows("1/2 2^191");
        due("at first", x.unknown(0), STATE);
        x.solve(0);
        due("what GREW", x.unknown(0), STATE);
        x.entry(0, 0, 1, 1);
        x.solve(0);
        is(x, x.unknown(0), "2^191");
        x.clear();
        due("cleared", x.unknown(0), STATE);
    }

    @Sentence("unknown: STATE: .. or there are no answers")
    static void unknownWithoutAnswers() {
        Pair x = rows("1 0 3", "0 0 1");
        due("RANK", x.solve(0), 1);
        due("unknown 0", x.unknown(0), STATE);
        due("unknown 1", x.unknown(1), STATE);
        x.entry(1, 2, 0, 1);
        due("as it was SOLVED", x.unknown(0), STATE);
        x.solve(0);
        unknownIs(x, 0, "3");
        unknownIs(x, 1, "0");
    }

    @Sentence("unknown: BAD")
    static void unknownOfNoColumn() {
        for (int n = 1; n <= 5; n++) {
            Pair x = pair(n);
            x.solve(0);
            for (int j : new int[] {LEAST, -1, n, n + 1, MOST}) {
                due("unknown " + j + " of " + n, x.unknown(j), BAD);
            }
            due("the last", x.unknown(n - 1), 0);
        }
    }

    @Sentence("unknown: FULL.")
    static void unknownFull() {
        Pair x = rows("2 6");
        x.solve(0);
        fillNumbers(x);
        due("full", x.unknown(0), FULL);
        x.drop();
        due("the last place", x.unknown(0), 39);
        is(x, 39, "3");
    }

    // ---- 15 pivot

    @Sentence("pivot: Of PIVOT k of what is SOLVED: 0 its column, 1 the ROW, by its number, 2 its SIZE.")
    static void pivotEach() {
        Pair x = rows("0 0 0 5", "0 0 top 0", "0 1/2 9 0");
        due("RANK", x.solve(0), 2);
        int[][] due = {{1, 2, 3}, {2, 1, 193}};
        for (int k = 0; k < 2; k++) {
            for (int what = 0; what < 3; what++) {
                due("PIVOT " + k + ", " + what, x.pivot(k, what), due[k][what]);
            }
        }
        due("there are no answers", x.answers(), 0);
    }

    @Sentence("pivot: 1 the ROW, by its number (not by its place)")
    static void pivotRowByNumber() {
        Pair x = rows("0 0 0 1 0", "0 0 1 0 0", "1 0 0 0 0", "0 1 0 0 0");
        due("RANK", x.solve(0), 4);
        int[] from = {2, 3, 1, 0};
        for (int k = 0; k < 4; k++) {
            due("ROW of PIVOT " + k, x.pivot(k, 1), from[k]);
            due("its column", x.pivot(k, 0), k);
        }
    }

    @Sentence("pivot: 2 its SIZE (as it had become)")
    static void pivotSizeAsItHadBecome() {
        Pair x = rows("4 1 0", "3 2 0");
        x.solve(0);
        due("SIZE of 4", x.pivot(0, 2), 4);
        due("SIZE of 5/4", x.pivot(1, 2), 6);
        x.solve(1);
        due("SIZE of 3", x.pivot(0, 2), 3);
        due("SIZE of - 5/3", x.pivot(1, 2), 5);
    }

    @Sentence("pivot: STATE")
    static void pivotOfNothing() {
        Pair x = rows("1/2 2^191");
        due("at first", x.pivot(0, 0), STATE);
        x.solve(1);
        due("what GREW", x.pivot(0, 0), STATE);
        x.entry(0, 0, 1, 1);
        x.solve(1);
        due("SOLVED", x.pivot(0, 0), 0);
        x.clear();
        due("cleared", x.pivot(0, 0), STATE);
    }

    @Sentence("pivot: BAD.")
    static void pivotBad() {
        Pair x = rows("1 0 0", "1 0 0");
        due("RANK", x.solve(0), 1);
        for (int bad : new int[] {LEAST, -1, 3, MOST}) {
            due("what " + bad, x.pivot(0, bad), BAD);
            due("PIVOT " + bad, x.pivot(bad, 0), BAD);
        }
        due("PIVOT 1", x.pivot(1, 0), BAD);
        due("PIVOT 2", x.pivot(2, 0), BAD);
        x.entry(0, 0, 0, 1);
        x.entry(1, 0, 0, 1);
        due("RANK", x.solve(0), 0);
        due("PIVOT 0 of none", x.pivot(0, 0), BAD);
    }

    // ---- 16 holds

    @Sentence("holds: Whether a ROW, as it is now, holds for the unknowns: 1, 0.")
    static void holdsAsItIsNow() {
        Pair x = rows("1 1 3", "1 -1 1");
        x.solve(0);
        due("ROW 0", x.holds(0), 1);
        due("ROW 1", x.holds(1), 1);
        x.entry(0, 2, 4, 1);
        due("ROW 0", x.holds(0), 0);
        x.entry(0, 2, -3, 1);
        due("the sign counts", x.holds(0), 0);
        x.entry(0, 2, 6, 2);
        due("ROW 0", x.holds(0), 1);
        x.entry(0, 0, 0, 1);
        x.entry(0, 1, 0, 1);
        x.entry(0, 2, 0, 1);
        due("0 is 0", x.holds(0), 1);
        load(x, 0, 2, "1/top");
        due("0 is not 1/top", x.holds(0), 0);
    }

    @Sentence("holds: ENTRY j times unknown j (the product GREW)")
    static void holdsProductThatGrew() {
        Pair x = rows("1 2^96+1");
        x.solve(0);
        load(x, 0, 1, "top");
        load(x, 0, 0, "2^96-1");
        due("top", x.holds(0), 1);
        load(x, 0, 0, "2^96");
        due("over 2^192", x.holds(0), GREW);
        load(x, 0, 0, "1/2^96");
        due("1 and a little", x.holds(0), 0);
    }

    @Sentence("holds: from 0 on, each added to the sum so far (0 at first) (that GREW on the way)")
    static void holdsSumThatGrew() {
        Pair x = rows("1 0 0 1", "0 1 0 1", "0 0 1 1");
        x.solve(0);
        fillRows(x, "top 1 -1 top", "top -1 1 top", "1 -1 top top");
        due("top and 1", x.holds(0), GREW);
        due("top less 1 and 1", x.holds(1), 1);
        due("1 less 1 and top", x.holds(2), 1);
        fillRows(x, "-top -1 1 -top", "-1 -1 -top -top", "top 0 0 -top");
        due("- top less 1", x.holds(0), GREW);
        due("- 2 less top", x.holds(1), GREW);
        due("not the sign", x.holds(2), 0);
    }

    @Sentence("holds: (unknowns of FREE columns are 0, whatever their ENTRIES)")
    static void holdsWithFreeColumns() {
        Pair x = rows("1 0 2", "0 0 0");
        x.solve(0);
        fillRows(x, "1 top 2", "top 0 0");
        due("ROW 0", x.holds(0), 1);
        due("twice top", x.holds(1), GREW);
    }

    @Sentence("holds: STATE: as unknown()")
    static void holdsOfNothing() {
        Pair x = rows("1/2 2^191");
        due("at first", x.holds(0), STATE);
        x.solve(0);
        due("what GREW", x.holds(0), STATE);
        x.entry(0, 0, 0, 1);
        due("RANK", x.solve(0), 0);
        due("no answers", x.holds(0), STATE);
        x.entry(0, 1, 0, 1);
        due("as it was SOLVED", x.holds(0), STATE);
        x.solve(0);
        due("0 is 0", x.holds(0), 1);
    }

    @Sentence("holds: BAD")
    static void holdsOfNoRow() {
        for (int n = 1; n <= 5; n++) {
            Pair x = pair(n);
            x.solve(0);
            for (int i : new int[] {LEAST, -1, n, n + 1, MOST}) {
                due("ROW " + i + " of " + n, x.holds(i), BAD);
            }
            due("the last", x.holds(n - 1), 1);
        }
    }

    @Sentence("holds: GREW: something did.")
    static void holdsCountsWhatGrew() {
        Pair x = rows("1 2");
        x.solve(0);
        load(x, 0, 0, "2^191");
        due("GREW", x.holds(0), GREW);
        due("GREW", x.holds(0), GREW);
        due("counted", x.count(3), 2);
        due("still SOLVED", x.answers(), 1);
        unknownIs(x, 0, "2");
    }

    // ---- 17 determinant

    @Sentence("determinant: A DETERMINANT by WAY 0, 1, 2 as a NUMBER: its number.")
    static void determinantByEachWay() {
        Pair x = rows("0 2 1 9", "3 0 -1 9", "1 1 4 9");
        for (int way = 0; way < 3; way++) {
            due("its number", x.determinant(way), way);
            is(x, way, "-23");
        }
        x = rows("-5/3 1");
        for (int way = 0; way < 3; way++) {
            is(x, x.determinant(way), "-5/3");
        }
    }

    @Sentence("determinant: BAD")
    static void determinantByNoWay() {
        Pair x = pair(2);
        for (int way : new int[] {LEAST, -1, 3, 4, MOST}) {
            due("WAY " + way, x.determinant(way), BAD);
        }
        due("NUMBERS", x.count(0), 0);
    }

    @Sentence("determinant: FULL")
    static void determinantFull() {
        Pair x = rows("2 0 0", "0 3 0");
        fillNumbers(x);
        for (int way = 0; way < 3; way++) {
            due("full", x.determinant(way), FULL);
        }
        for (int way = 0; way < 3; way++) {
            x.drop();
            due("the last place", x.determinant(way), 39);
            is(x, 39, "6");
        }
    }

    @Sentence("determinant: GREW.")
    static void determinantThatGrew() {
        Pair x = rows("2^96 0 0", "0 2^96 0");
        x.value(4, 1);
        for (int way = 0; way < 3; way++) {
            due("2^192", x.determinant(way), GREW);
        }
        due("counted", x.count(3), 3);
        due("NUMBERS", x.count(0), 1);
        due("the next", x.value(5, 1), 1);
        is(x, 1, "5");
    }
}
