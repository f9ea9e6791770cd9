/** The sentences of promises 23 to 26. */
public final class BoundsOfDecimalsTest extends Checks {
    public static void main(String[] args) throws IllegalAccessException {
        runAll(BoundsOfDecimalsTest.class);
    }

    // ---- 23 decimals

    @Sentence("decimals: the greatest multiple of 10^-digits that is not above a NUMBER")
    static void decimalsNotAbove() {
        Pair x = pair(1);
        written(x, number(x, "1/3"), 2, false, "0.33");
        written(x, number(x, "-1/3"), 2, false, "-0.34");
        written(x, number(x, "999/1000"), 2, false, "0.99");
        written(x, number(x, "-999/1000"), 2, false, "-1.00");
        written(x, number(x, "-1/top"), 0, false, "-1");
        written(x, number(x, "1/top"), 0, false, "0");
    }

    @Sentence("decimals: or (up) the least that is not below it")
    static void decimalsNotBelow() {
        Pair x = pair(1);
        written(x, number(x, "1/3"), 2, true, "0.34");
        written(x, number(x, "-1/3"), 2, true, "-0.33");
        written(x, number(x, "999/1000"), 2, true, "1.00");
        written(x, number(x, "-999/1000"), 2, true, "-0.99");
        written(x, number(x, "-1/top"), 0, true, "0");
        written(x, number(x, "1/top"), 0, true, "1");
    }

    @Sentence("decimals: (a multiple itself is both)")
    static void decimalsOfAMultiple() {
        Pair x = pair(1);
        for (int way = 0; way < 2; way++) {
            boolean up = way == 1;
            written(x, number(x, "-5/4"), 2, up, "-1.25");
            written(x, number(x, "5/4"), 3, up, "1.250");
            written(x, number(x, "-7"), 0, up, "-7");
            written(x, number(x, "100"), 0, up, "100");
        }
    }

    @Sentence("decimals: (0 .. 30 digits)")
    static void decimalsOfTheMostDigits() {
        Pair x = pair(1);
        written(x, number(x, "1/3"), 30, false, "0." + "3".repeat(30));
        written(x, number(x, "1/3"), 30, true, "0." + "3".repeat(29) + "4");
        written(x, number(x, "-1/top"), 30, false, "-0." + "0".repeat(29) + "1");
        written(x, number(x, "1/10000000000"), 30, false, "0.0000000001" + "0".repeat(20));
    }

    @Sentence("decimals: - when that is below 0 (not when the NUMBER alone is)")
    static void decimalsBelowZero() {
        Pair x = pair(1);
        int tiny = number(x, "-1/1000");
        written(x, tiny, 2, true, "0.00");
        written(x, tiny, 2, false, "-0.01");
        written(x, tiny, 3, true, "-0.001");
        written(x, tiny, 0, true, "0");
        written(x, number(x, "0"), 5, false, "0.00000");
        written(x, number(x, "0"), 0, true, "0");
    }

    @Sentence("decimals: figures without 0s ahead (one at least)")
    static void decimalsFiguresAhead() {
        Pair x = pair(1);
        written(x, number(x, "1/20"), 2, false, "0.05");
        written(x, number(x, "-1/20"), 2, true, "-0.05");
        written(x, number(x, "1"), 1, false, "1.0");
        written(x, number(x, "10"), 1, false, "10.0");
        written(x, number(x, "999999999999/100"), 2, false, "9999999999.99");
        written(x, number(x, "99/100"), 1, true, "1.0");
    }

    @Sentence("decimals: and, of 1 digit or more, a point and so many digits")
    static void decimalsPoint() {
        Pair x = pair(1);
        int a = number(x, "-25/2");
        written(x, a, 0, false, "-13");
        written(x, a, 0, true, "-12");
        written(x, a, 1, false, "-12.5");
        written(x, a, 2, false, "-12.50");
    }

    @Sentence("decimals: how many signs. (the most there can be)")
    static void decimalsOfTheMostSigns() {
        Pair x = pair(1);
        int least = number(x, "-top");
        written(x, least, 30, false, "-" + TOP + "." + "0".repeat(30));
        written(x, least, 0, true, "-" + TOP);
        due("signs", x.decimals(least, 30, true), 90);
        written(x, number(x, "7"), 0, false, "7");
    }

    @Sentence("decimals: BAD.")
    static void decimalsBad() {
        Pair x = pair(1);
        due("none", x.decimals(0, 0, false), BAD);
        x.value(1, 8);
        for (int digits : new int[] {LEAST, -1, 31, 32, MOST}) {
            due("digits " + digits, x.decimals(0, digits, false), BAD);
        }
        for (int a : new int[] {LEAST, -1, 1, 40, MOST}) {
            due("NUMBER " + a, x.decimals(a, 0, true), BAD);
        }
        due("THE TEXT is still empty", x.sign(0), BAD);
    }

    // ---- 24 sign

    @Sentence("sign: Sign i of THE TEXT")
    static void signEach() {
        Pair x = pair(1);
        x.decimals(number(x, "-25/2"), 1, false);
        String due = "-12.5";
        for (int i = 0; i < due.length(); i++) {
            due("sign " + i, x.sign(i), (int) due.charAt(i));
        }
    }

    @Sentence("sign: (empty at first)")
    static void signOfNothing() {
        Pair x = pair(1);
        due("sign 0", x.sign(0), BAD);
        due("sign -1", x.sign(-1), BAD);
        due("sign 1", x.sign(1), BAD);
    }

    @Sentence("sign: BAD: none such.")
    static void signNoneSuch() {
        Pair x = pair(1);
        int a = number(x, "-100");
        x.decimals(a, 2, false);
        for (int i : new int[] {LEAST, -1, 7, 8, 89, 90, 91, MOST}) {
            due("sign " + i, x.sign(i), BAD);
        }
        due("the last", x.sign(6), (int) '0');
        x.decimals(number(x, "5"), 0, false);
        due("a shorter one", x.sign(1), BAD);
        due("a shorter one", x.sign(0), (int) '5');
        x.decimals(number(x, "-top"), 30, false);
        due("sign 89", x.sign(89), (int) '0');
        due("sign 90", x.sign(90), BAD);
    }

    // ---- 25 count

    @Sentence("count: 0 NUMBERS")
    static void countNumbers() {
        Pair x = pair(1);
        due("none", x.count(0), 0);
        fillNumbers(x);
        due("all", x.count(0), 40);
        x.value(1, 1);
        due("no more", x.count(0), 40);
        x.drop();
        due("one less", x.count(0), 39);
        x.clear();
        due("none", x.count(0), 0);
    }

    @Sentence("count: 1 primes that are JOINED")
    static void countPrimes() {
        Pair x = pair(1);
        due("none", x.count(1), 0);
        x.meet(2, 0);
        x.meet(3, 0);
        x.meet(3, 0);
        x.meet(4, 0);
        due("two", x.count(1), 2);
        x.part();
        due("none", x.count(1), 0);
        x.meet(2, 0);
        x.clear();
        due("none", x.count(1), 0);
    }

    @Sentence("count: 2 ROWS")
    static void countRows() {
        for (int n = -1; n <= 7; n++) {
            Pair x = pair(n);
            due("ROWS", x.count(2), Math.max(1, Math.min(5, n)));
            x.clear();
            due("ROWS", x.count(2), Math.max(1, Math.min(5, n)));
        }
    }

    @Sentence("count: 3 how often GREW was answered.")
    static void countGrew() {
        Pair x = rows("1 1");
        int top = number(x, "top");
        due("none", x.count(3), 0);
        x.entry(0, 1, 1, 1);
        x.solve(0);
        due("act", x.act(0, top, top), GREW);
        due("quotient", x.quotient(top, x.value(1, 2)), GREW);
        x.put(0, 0, x.act(1, x.value(0, 1), top));
        x.entry(0, 1, 1, 2);
        x.solve(1);
        due("solve", x.count(3), 3);
        x.entry(0, 0, 1, 1);
        x.entry(0, 1, 2, 1);
        x.solve(1);
        x.put(0, 0, top);
        due("holds", x.holds(0), GREW);
        due("four", x.count(3), 4);
        due("BAD is not counted", x.act(0, -1, 0), BAD);
        due("nor ZERO", x.value(1, 0), ZERO);
        due("nor NONE", x.recover(), NONE);
        due("four", x.count(3), 4);
    }

    @Sentence("count: 3 how often GREW was answered. (by a DETERMINANT, and by meet)")
    static void countGrewByOthers() {
        Pair x = rows("2^96 0 0", "0 2^96 0");
        for (int way = 0; way < 3; way++) {
            x.determinant(way);
        }
        due("three", x.count(3), 3);
        for (int p : new int[] {2147483647, 2147483629, 2147483587, 2147483579, 2147483563, 2147483549}) {
            x.meet(p, 0);
        }
        due("three", x.count(3), 3);
        due("meet", x.meet(2147483543, 0), GREW);
        due("four", x.count(3), 4);
    }

    @Sentence("count: BAD.")
    static void countBad() {
        Pair x = pair(2);
        for (int what : new int[] {LEAST, -1, 4, 5, MOST}) {
            due("what " + what, x.count(what), BAD);
        }
    }

    // ---- 26 clear

    @Sentence("clear: No NUMBERS .. : how many NUMBERS there were.")
    static void clearNumbers() {
        Pair x = pair(1);
        due("none", x.clear(), 0);
        x.value(1, 1);
        due("one", x.clear(), 1);
        fillNumbers(x);
        due("all", x.clear(), 40);
        due("none", x.clear(), 0);
        due("NUMBER 0", x.about(0, 0), BAD);
        due("the first", x.value(3, 1), 0);
    }

    @Sentence("clear: all ENTRIES 0")
    static void clearEntries() {
        for (int n = 1; n <= 5; n++) {
            Pair x = pair(n);
            for (int i = 0; i < n; i++) {
                for (int j = 0; j <= n; j++) {
                    x.entry(i, j, -5, 3);
                }
            }
            x.clear();
            for (int i = 0; i < n; i++) {
                for (int j = 0; j <= n; j++) {
                    entryIs(x, i, j, "0");
                }
            }
            due("RANK", x.solve(0), 0);
            for (int i = 0; i < n; i++) {
                due("0 is 0, though it was below 0", x.holds(i), 1);
            }
        }
    }

    @Sentence("clear: nothing SOLVED")
    static void clearSolved() {
        Pair x = rows("2 6");
        x.solve(0);
        x.clear();
        due("answers", x.answers(), STATE);
        due("unknown", x.unknown(0), STATE);
        due("pivot", x.pivot(0, 0), STATE);
        due("holds", x.holds(0), STATE);
        due("RANK", x.solve(0), 0);
        unknownIs(x, 0, "0");
    }

    @Sentence("clear: J 0, M 1")
    static void clearJoined() {
        Pair x = pair(1);
        x.meet(7, 3);
        x.clear();
        is(x, x.joined(0), "0");
        is(x, x.joined(1), "1");
        due("primes", x.part(), 0);
        due("7 again", x.meet(7, 4), 1);
    }

    @Sentence("clear: (what it does not name stays: THE TEXT, ROWS, how often GREW was answered)")
    static void clearLeavesTheRest() {
        Pair x = pair(3);
        int top = number(x, "top");
        x.act(2, top, top);
        x.decimals(top, 0, false);
        x.clear();
        due("THE TEXT", x.text(), TOP.toString());
        due("GREW", x.count(3), 1);
        due("ROWS", x.count(2), 3);
    }
}
