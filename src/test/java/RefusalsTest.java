import java.util.function.Consumer;
import java.util.function.ToIntFunction;

/** The sentences of 'Terms' about refusals, for each call, and about what is SOLVED. */
public final class RefusalsTest extends Checks {
    private static final int[] WIDE_PRIMES = {2147483647, 2147483629, 2147483587, 2147483579, 2147483563, 2147483549};

    public static void main(String[] args) throws IllegalAccessException {
        runAll(RefusalsTest.class);
    }

    // ---- states

    /** 2 ROWS, 2 primes, THE TEXT, and NUMBERS 22/7, 0, -5/3, 2^191, 1/2; nothing is SOLVED. */
    private static void unsolved(Pair x) {
        x.value(22, 7);
        x.value(0, 1);
        x.value(-5, 3);
        number(x, "2^191");
        x.value(1, 2);
        fillRows(x, "1/2 3 5", "-1 4/3 7");
        x.meet(101, 46);
        x.meet(97, 17);
        x.decimals(2, 3, true);
    }

    private static void some(Pair x) {
        unsolved(x);
        x.solve(1);
    }

    private static void full(Pair x) {
        some(x);
        fillNumbers(x);
    }

    private static void withoutAnswers(Pair x) {
        some(x);
        fillRows(x, "1 1 2", "1 1 3");
        x.solve(0);
    }

    /** solve(), and a DETERMINANT, would grow; what is SOLVED is from before. */
    private static void growing(Pair x) {
        some(x);
        growRows(x);
    }

    private static void growRows(Pair x) {
        fillRows(x, "2^191 1 1", "2^191 -top 1");
    }

    // ---- what is refused changes nothing

    /** The call is refused, and what can be told of the object then is as if it had not been made. */
    private static void refused(Consumer<Pair> state, int answer, ToIntFunction<Pair> call) {
        Pair with = pair(2);
        Pair without = pair(2);
        state.accept(with);
        state.accept(without);
        due("the answer", call.applyAsInt(with), answer);
        int counted = answer == GREW ? 1 : 0;
        due("GREW is counted", with.count(3) - without.count(3), counted);
        due("all that can be told", everything(with), everything(without));
    }

    private static String everything(Pair x) {
        StringBuilder all = new StringBuilder();
        for (int what = 0; what < 3; what++) {
            all.append(x.count(what)).append(' ');
        }
        for (int a = 0; a < x.model().numbers.size(); a++) {
            all.append(x.show(a)).append(' ');
        }
        all.append('"').append(x.text()).append("\" ").append(x.answers());
        for (int k = 0; k < 6; k++) {
            all.append(' ').append(x.pivot(k / 3, k % 3));
        }
        all.append(' ').append(x.holds(0)).append(' ').append(x.holds(1));
        dropTo(x, Math.min(x.model().numbers.size(), MOST_NUMBERS - 1));
        for (int j = 0; j < 2; j++) {
            showMade(x, x.unknown(j), all);
            showMade(x, x.joined(j), all);
        }
        for (int k = 0; k < 6; k++) {
            showMade(x, x.take(k / 3, k % 3), all);
        }
        showMade(x, x.recover(), all);
        return all.toString();
    }

    private static void showMade(Pair x, int made, StringBuilder to) {
        to.append(' ').append(made >= 0 ? x.show(made) : String.valueOf(made));
        if (made >= 0) {
            x.drop();
        }
    }

    @Sentence("what is refused changes nothing: value")
    static void unchangedByValue() {
        refused(RefusalsTest::some, ZERO, x -> x.value(5, 0));
        refused(RefusalsTest::full, FULL, x -> x.value(5, 1));
    }

    @Sentence("what is refused changes nothing: act")
    static void unchangedByAct() {
        refused(RefusalsTest::some, BAD, x -> x.act(4, 0, 0));
        refused(RefusalsTest::some, BAD, x -> x.act(-1, 0, 0));
        refused(RefusalsTest::some, BAD, x -> x.act(0, 0, 5));
        refused(RefusalsTest::full, FULL, x -> x.act(2, 0, 0));
        refused(RefusalsTest::some, ZERO, x -> x.act(3, 0, 1));
    }

    @Sentence("what is refused changes nothing, but that a GREW is counted: act")
    static void unchangedByActThatGrew() {
        refused(RefusalsTest::some, GREW, x -> x.act(0, 3, 3));
        refused(RefusalsTest::some, GREW, x -> x.act(2, 3, 3));
        refused(RefusalsTest::some, GREW, x -> x.act(3, 3, 4));
    }

    @Sentence("what is refused changes nothing, but that a GREW is counted: quotient")
    static void unchangedByQuotient() {
        refused(RefusalsTest::some, BAD, x -> x.quotient(0, 5));
        refused(RefusalsTest::full, FULL, x -> x.quotient(0, 2));
        refused(RefusalsTest::some, THROWN, x -> x.quotient(0, 1));
        refused(RefusalsTest::some, GREW, x -> x.quotient(3, 4));
    }

    @Sentence("what is refused changes nothing: drop")
    static void unchangedByDrop() {
        refused(x -> { some(x); dropTo(x, 0); }, STATE, Pair::drop);
    }

    @Sentence("what is refused changes nothing: compare, about, limb, sign, count")
    static void unchangedByQuestions() {
        refused(RefusalsTest::some, -2, x -> x.compare(0, 5));
        refused(RefusalsTest::some, BAD, x -> x.about(0, 4));
        refused(RefusalsTest::some, BAD, x -> x.about(5, 0));
        refused(RefusalsTest::some, THROWN, x -> x.limb(0, 0, 1));
        refused(RefusalsTest::some, THROWN, x -> x.limb(0, 2, 0));
        refused(RefusalsTest::some, THROWN, x -> x.limb(5, 0, 0));
        refused(RefusalsTest::some, BAD, x -> x.sign(6));
        refused(RefusalsTest::some, BAD, x -> x.count(4));
    }

    @Sentence("what is refused changes nothing: entry, put")
    static void unchangedByEntryAndPut() {
        refused(RefusalsTest::some, BAD, x -> x.entry(0, 3, 9, 1));
        refused(RefusalsTest::some, BAD, x -> x.entry(2, 0, 9, 1));
        refused(RefusalsTest::some, ZERO, x -> x.entry(0, 0, 9, 0));
        refused(RefusalsTest::some, BAD, x -> x.put(0, 3, 0));
        refused(RefusalsTest::some, BAD, x -> x.put(-1, 0, 0));
        refused(RefusalsTest::some, BAD, x -> x.put(0, 0, 5));
    }

    @Sentence("what is refused changes nothing: take")
    static void unchangedByTake() {
        refused(RefusalsTest::some, BAD, x -> x.take(0, 3));
        refused(RefusalsTest::full, FULL, x -> x.take(0, 0));
    }

    @Sentence("what is refused changes nothing: solve (BAD leaves what is SOLVED)")
    static void unchangedBySolve() {
        refused(RefusalsTest::some, BAD, x -> x.solve(2));
        refused(RefusalsTest::growing, BAD, x -> x.solve(-1));
        refused(RefusalsTest::withoutAnswers, BAD, x -> x.solve(2));
        refused(RefusalsTest::unsolved, BAD, x -> x.solve(2));
    }

    @Sentence("a GREW is counted, and .. solve()'s leaves nothing SOLVED (and all else as it was)")
    static void unchangedBySolveThatGrew() {
        for (int way = 0; way < 2; way++) {
            Pair with = pair(2);
            growing(with);
            due("SOLVED before", with.answers(), 1);
            due("solve", with.solve(way), GREW);
            due("counted", with.count(3), 1);
            due("nothing SOLVED", with.answers(), STATE);
            Pair without = pair(2);
            unsolved(without);
            growRows(without);
            due("all that can be told", everything(with), everything(without));
        }
    }

    @Sentence("what is refused changes nothing: answers, unknown")
    static void unchangedByUnknown() {
        refused(RefusalsTest::unsolved, STATE, Pair::answers);
        refused(RefusalsTest::unsolved, STATE, x -> x.unknown(0));
        refused(RefusalsTest::withoutAnswers, STATE, x -> x.unknown(0));
        refused(RefusalsTest::some, BAD, x -> x.unknown(2));
        refused(RefusalsTest::full, FULL, x -> x.unknown(0));
    }

    @Sentence("what is refused changes nothing: pivot")
    static void unchangedByPivot() {
        refused(RefusalsTest::unsolved, STATE, x -> x.pivot(0, 0));
        refused(RefusalsTest::some, BAD, x -> x.pivot(2, 0));
        refused(RefusalsTest::some, BAD, x -> x.pivot(0, 3));
    }

    @Sentence("what is refused changes nothing, but that a GREW is counted: holds")
    static void unchangedByHolds() {
        refused(RefusalsTest::unsolved, STATE, x -> x.holds(0));
        refused(RefusalsTest::withoutAnswers, STATE, x -> x.holds(0));
        refused(RefusalsTest::some, BAD, x -> x.holds(2));
        refused(RefusalsTest::growing, GREW, x -> x.holds(1));
    }

    @Sentence("what is refused changes nothing, but that a GREW is counted: determinant")
    static void unchangedByDeterminant() {
        refused(RefusalsTest::some, BAD, x -> x.determinant(3));
        refused(RefusalsTest::full, FULL, x -> x.determinant(2));
        for (int way = 0; way < 3; way++) {
            int by = way;
            refused(RefusalsTest::growing, GREW, x -> x.determinant(by));
        }
    }

    @Sentence("what is refused changes nothing: rest")
    static void unchangedByRest() {
        refused(RefusalsTest::some, BAD, x -> x.rest(5, 7));
        refused(RefusalsTest::some, BAD, x -> x.rest(0, 9));
        refused(RefusalsTest::some, ZERO, x -> x.rest(0, 7));
    }

    @Sentence("what is refused changes nothing, but that a GREW is counted: meet")
    static void unchangedByMeet() {
        refused(RefusalsTest::some, BAD, x -> x.meet(9, 1));
        refused(RefusalsTest::some, BAD, x -> x.meet(7, 7));
        refused(RefusalsTest::some, STATE, x -> x.meet(97, 18));
        refused(RefusalsTest::wideModulus, GREW, x -> x.meet(67, 5));
    }

    private static void wideModulus(Pair x) {
        some(x);
        x.part();
        for (int p : WIDE_PRIMES) {
            x.meet(p, p / 3);
        }
    }

    @Sentence("what is refused changes nothing: joined, recover")
    static void unchangedByJoinedAndRecover() {
        refused(RefusalsTest::some, BAD, x -> x.joined(2));
        refused(RefusalsTest::full, FULL, x -> x.joined(0));
        refused(RefusalsTest::full, FULL, Pair::recover);
        refused(x -> { some(x); x.part(); x.meet(7, 2); }, NONE, Pair::recover);
        refused(RefusalsTest::wideModulus, NONE, Pair::recover);
    }

    @Sentence("what is refused changes nothing: decimals (THE TEXT stays)")
    static void unchangedByDecimals() {
        refused(RefusalsTest::some, BAD, x -> x.decimals(0, 31, false));
        refused(RefusalsTest::some, BAD, x -> x.decimals(0, -1, true));
        refused(RefusalsTest::some, BAD, x -> x.decimals(5, 0, false));
    }

    // ---- Of several refusals the first that a call names counts

    @Sentence("the first counts: value, ZERO and FULL")
    static void firstOfValue() {
        Pair x = pair(1);
        fillNumbers(x);
        due("ZERO, FULL", x.value(1, 0), ZERO);
    }

    @Sentence("the first counts: act, BAD and FULL, BAD and ZERO, FULL and ZERO, FULL and GREW")
    static void firstOfAct() {
        Pair x = pair(2);
        some(x);
        due("BAD, ZERO", x.act(3, 5, 1), BAD);
        due("BAD, ZERO", x.act(3, -1, 1), BAD);
        due("BAD, GREW", x.act(4, 3, 3), BAD);
        fillNumbers(x);
        due("BAD, FULL", x.act(4, 0, 0), BAD);
        due("BAD, FULL", x.act(0, 40, 0), BAD);
        due("BAD, FULL", x.act(0, 0, -1), BAD);
        due("BAD, FULL, ZERO", x.act(3, 40, 1), BAD);
        due("FULL, ZERO", x.act(3, 0, 1), FULL);
        due("FULL, GREW", x.act(2, 3, 3), FULL);
        due("no GREW is counted", x.count(3), 0);
    }

    @Sentence("the first counts: quotient, BAD and FULL, BAD and the exception, FULL and the exception, FULL and GREW")
    static void firstOfQuotient() {
        Pair x = pair(2);
        some(x);
        due("BAD, exception", x.quotient(5, 1), BAD);
        fillNumbers(x);
        due("BAD, FULL", x.quotient(0, 40), BAD);
        due("BAD, FULL, exception", x.quotient(-1, 1), BAD);
        due("FULL, exception", x.quotient(0, 1), FULL);
        due("FULL, GREW", x.quotient(3, 4), FULL);
        due("no GREW is counted", x.count(3), 0);
    }

    @Sentence("the first counts: entry, BAD and ZERO")
    static void firstOfEntry() {
        Pair x = pair(1);
        due("BAD, ZERO", x.entry(1, 0, 1, 0), BAD);
        due("BAD, ZERO", x.entry(0, 2, 1, 0), BAD);
    }

    @Sentence("the first counts: take, BAD and FULL")
    static void firstOfTake() {
        Pair x = pair(1);
        fillNumbers(x);
        due("BAD, FULL", x.take(1, 0), BAD);
        due("BAD, FULL", x.take(0, 2), BAD);
    }

    @Sentence("the first counts: solve, BAD and GREW")
    static void firstOfSolve() {
        Pair x = pair(2);
        growing(x);
        due("BAD, GREW", x.solve(2), BAD);
        due("no GREW is counted", x.count(3), 0);
        due("what is SOLVED stays", x.answers(), 1);
    }

    @Sentence("the first counts: unknown, STATE and BAD, STATE and FULL, BAD and FULL")
    static void firstOfUnknown() {
        Pair x = pair(1);
        due("STATE, BAD", x.unknown(1), STATE);
        fillNumbers(x);
        due("STATE, FULL", x.unknown(0), STATE);
        due("STATE, BAD, FULL", x.unknown(-1), STATE);
        x.solve(0);
        due("BAD, FULL", x.unknown(1), BAD);
        due("FULL", x.unknown(0), FULL);
        x.entry(0, 1, 1, 1);
        x.solve(0);
        due("no answers, BAD, FULL", x.unknown(1), STATE);
        due("no answers, FULL", x.unknown(0), STATE);
    }

    @Sentence("the first counts: pivot, STATE and BAD")
    static void firstOfPivot() {
        Pair x = pair(1);
        due("STATE, BAD", x.pivot(1, 0), STATE);
        due("STATE, BAD", x.pivot(0, 3), STATE);
        x.solve(0);
        due("BAD", x.pivot(0, 0), BAD);
    }

    @Sentence("the first counts: holds, STATE and BAD, STATE and GREW, BAD and GREW")
    static void firstOfHolds() {
        Pair x = pair(2);
        growRows(x);
        due("STATE, BAD", x.holds(2), STATE);
        due("STATE", x.holds(0), STATE);
        growing(x);
        due("BAD", x.holds(2), BAD);
        due("BAD", x.holds(-1), BAD);
        due("no GREW is counted", x.count(3), 0);
        withoutAnswers(x);
        due("no answers, BAD", x.holds(2), STATE);
    }

    @Sentence("the first counts: determinant, BAD and FULL, BAD and GREW, FULL and GREW")
    static void firstOfDeterminant() {
        Pair x = pair(2);
        growing(x);
        due("BAD, GREW", x.determinant(3), BAD);
        fillNumbers(x);
        due("BAD, FULL", x.determinant(-1), BAD);
        for (int way = 0; way < 3; way++) {
            due("FULL, GREW", x.determinant(way), FULL);
        }
        due("no GREW is counted", x.count(3), 0);
    }

    @Sentence("the first counts: rest, BAD and ZERO")
    static void firstOfRest() {
        Pair x = pair(1);
        x.value(1, 9);
        due("BAD, ZERO", x.rest(0, 9), BAD);
        due("BAD, ZERO", x.rest(0, 1), BAD);
        due("ZERO", x.rest(0, 3), ZERO);
        due("BAD", x.rest(1, 3), BAD);
    }

    @Sentence("the first counts: meet, BAD and STATE, BAD and GREW, STATE and GREW")
    static void firstOfMeet() {
        Pair x = pair(1);
        x.meet(3, 1);
        due("BAD, STATE", x.meet(3, 3), BAD);
        due("BAD, STATE", x.meet(3, -1), BAD);
        due("BAD, STATE", x.meet(1, 0), BAD);
        x.part();
        for (int p : WIDE_PRIMES) {
            x.meet(p, 1);
        }
        due("BAD, GREW", x.meet(67, 67), BAD);
        due("BAD, GREW", x.meet(2147483646, 0), BAD);
        due("STATE, GREW", x.meet(2147483647, 1), STATE);
        due("no GREW is counted", x.count(3), 0);
        due("GREW", x.meet(67, 66), GREW);
    }

    @Sentence("the first counts: joined, BAD and FULL")
    static void firstOfJoined() {
        Pair x = pair(1);
        fillNumbers(x);
        due("BAD, FULL", x.joined(2), BAD);
        due("BAD, FULL", x.joined(-1), BAD);
    }

    @Sentence("the first counts: recover, FULL and NONE")
    static void firstOfRecover() {
        Pair x = pair(1);
        fillNumbers(x);
        due("FULL, NONE", x.recover(), FULL);
        x.drop();
        due("NONE", x.recover(), NONE);
    }

    // ---- What is SOLVED stays so, whatever becomes of ROWS.

    private static void staysSolved(Pair x) {
        due("answers", x.answers(), 1);
        unknownIs(x, 0, "2");
        unknownIs(x, 1, "-1/3");
        due("column of PIVOT 0", x.pivot(0, 0), 0);
        due("ROW of PIVOT 0", x.pivot(0, 1), 1);
        due("SIZE of PIVOT 0", x.pivot(0, 2), 2);
        due("ROW of PIVOT 1", x.pivot(1, 1), 0);
        due("PIVOT 2", x.pivot(2, 1), BAD);
    }

    private static Pair solved() {
        Pair x = rows("0 3 -1", "1 0 2");
        due("RANK", x.solve(0), 2);
        staysSolved(x);
        return x;
    }

    @Sentence("What is SOLVED stays so, whatever becomes of ROWS. (by entry, put)")
    static void solvedThoughRowsChange() {
        Pair x = solved();
        for (int k = 0; k < 6; k++) {
            x.entry(k / 3, k % 3, 0, 1);
        }
        staysSolved(x);
        x.value(9, 1);
        for (int k = 0; k < 6; k++) {
            x.put(k / 3, k % 3, 0);
        }
        staysSolved(x);
        due("ROW 0 as it is now", x.holds(0), 0);
    }

    @Sentence("What is SOLVED stays so (by a DETERMINANT, that GREW or not, and by holds)")
    static void solvedThoughDeterminants() {
        Pair x = solved();
        growRows(x);
        for (int way = 0; way < 3; way++) {
            due("grows", x.determinant(way), GREW);
        }
        due("grows", x.holds(0), GREW);
        staysSolved(x);
        fillRows(x, "5 1 1", "3 2 1");
        for (int way = 0; way < 3; way++) {
            x.determinant(way);
        }
        staysSolved(x);
    }

    @Sentence("What is SOLVED stays so (by calls that have nothing to do with it)")
    static void solvedThoughOtherCalls() {
        Pair x = solved();
        x.value(-7, 3);
        x.act(3, 0, 0);
        x.quotient(0, 1);
        x.decimals(0, 30, true);
        x.meet(101, 5);
        x.meet(103, 7);
        x.recover();
        x.joined(0);
        x.rest(0, 11);
        x.part();
        x.take(0, 0);
        x.drop();
        x.solve(7);
        staysSolved(x);
    }

    @Sentence("What is SOLVED stays so (a NUMBER that was told of it may go, and be put into ROWS)")
    static void solvedThoughItsNumbersGo() {
        Pair x = solved();
        int told = x.unknown(0);
        x.put(0, 0, told);
        x.drop();
        x.value(77, 1);
        x.drop();
        staysSolved(x);
    }

    @Sentence("What is SOLVED stays so (that there are no answers, too)")
    static void solvedWithoutAnswers() {
        Pair x = rows("1 1 1", "1 1 2");
        due("RANK", x.solve(1), 1);
        x.entry(1, 2, 1, 1);
        due("answers", x.answers(), 0);
        due("unknown", x.unknown(0), STATE);
        due("holds", x.holds(0), STATE);
        due("PIVOT", x.pivot(0, 0), 0);
        due("RANK", x.solve(1), 1);
        due("answers", x.answers(), 2);
    }

    @Sentence("ROWS are SOLVED (again: what was SOLVED before is not told any more)")
    static void solvedAgain() {
        Pair x = solved();
        fillRows(x, "0 0 0", "0 4 8");
        due("RANK", x.solve(0), 1);
        due("answers", x.answers(), 2);
        unknownIs(x, 0, "0");
        unknownIs(x, 1, "2");
        due("column", x.pivot(0, 0), 1);
        due("PIVOT 1", x.pivot(1, 0), BAD);
    }
}
