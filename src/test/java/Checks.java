import java.lang.reflect.InvocationTargetException;
import java.lang.reflect.Method;
import java.math.BigInteger;
import java.util.ArrayList;
import java.util.Comparator;
import java.util.List;

/**
 * What the tests of single sentences share. Numbers are written as u or u/v, a part as 17, 2^96,
 * 2^96+1, top (2^192 - 1, the greatest that is WIDE), top-1; a - ahead is that of the whole part.
 */
abstract class Checks {
    static final int BAD = FractionRows.BAD, ZERO = FractionRows.ZERO, GREW = FractionRows.GREW,
        FULL = FractionRows.FULL, STATE = FractionRows.STATE, NONE = FractionRows.NONE,
        THROWN = Pair.THROWN;
    static final int LEAST = Integer.MIN_VALUE, MOST = Integer.MAX_VALUE;
    static final int MOST_NUMBERS = 40;
    static final int MOST_CALLS = 512;
    static final BigInteger TOP = BigInteger.ONE.shiftLeft(192).subtract(BigInteger.ONE);

    private static final List<Pair> PAIRS = new ArrayList<>();
    private static final List<String> WRONG = new ArrayList<>();

    /** Runs every method with a Sentence, and ends with exit code 1 if one is wrong. */
    static void runAll(Class<? extends Checks> tests) throws IllegalAccessException {
        List<Method> methods = new ArrayList<>(List.of(tests.getDeclaredMethods()));
        methods.removeIf(method -> !method.isAnnotationPresent(Sentence.class));
        methods.sort(Comparator.comparing(Method::getName));
        int failed = 0;
        for (Method method : methods) {
            PAIRS.clear();
            WRONG.clear();
            runOne(method);
            if (!WRONG.isEmpty()) {
                failed++;
                System.out.println(method.getName() + ": " + method.getAnnotation(Sentence.class).value());
                WRONG.forEach(line -> System.out.println("    " + line));
            }
        }
        System.out.println(methods.size() + " sentences, " + failed + " broken");
        if (failed != 0 || methods.isEmpty()) {
            System.exit(1);
        }
    }

    private static void runOne(Method method) throws IllegalAccessException {
        try {
            method.setAccessible(true);
            method.invoke(null);
        } catch (InvocationTargetException e) {
            WRONG.add(e.getCause().toString());
        }
        for (Pair x : PAIRS) {
            due("calls within what is promised", x.calls() <= MOST_CALLS, true);
        }
    }

    static void due(String what, Object got, Object want) {
        if (!want.equals(got)) {
            WRONG.add(what + " is " + got + ", due is " + want);
        }
    }

    static Pair pair(int n) {
        Pair made = new Pair(n);
        PAIRS.add(made);
        return made;
    }

    static BigInteger whole(String written) {
        if (written.startsWith("-")) {
            return whole(written.substring(1)).negate();
        }
        int plus = written.indexOf('+');
        int minus = written.indexOf('-');
        if (plus > 0 || minus > 0) {
            int at = Math.max(plus, minus);
            BigInteger less = whole(written.substring(at + 1));
            return whole(written.substring(0, at)).add(plus > 0 ? less : less.negate());
        }
        int hat = written.indexOf('^');
        if (hat > 0) {
            return new BigInteger(written.substring(0, hat)).pow(Integer.parseInt(written.substring(hat + 1)));
        }
        return written.equals("top") ? TOP : new BigInteger(written);
    }

    static Model.Ratio ratio(String written) {
        int by = written.indexOf('/');
        return by < 0 ? new Model.Ratio(whole(written), BigInteger.ONE)
            : new Model.Ratio(whole(written.substring(0, by)), whole(written.substring(by + 1)));
    }

    /** Of as many ROWS as are given, each with its ENTRIES and the RIGHT side. */
    static Pair rows(String... rows) {
        Pair x = pair(rows.length);
        fillRows(x, rows);
        return x;
    }

    static void fillRows(Pair x, String... rows) {
        for (int i = 0; i < rows.length; i++) {
            String[] entries = rows[i].trim().split(" +");
            due("ENTRIES of a ROW that is written", entries.length, rows.length + 1);
            for (int j = 0; j < entries.length; j++) {
                load(x, i, j, entries[j]);
            }
        }
    }

    /** An ENTRY becomes what is written; NUMBERS that this takes are gone behind it. */
    static void load(Pair x, int i, int j, String written) {
        Model.Ratio ratio = ratio(written);
        if (ratio.u.bitLength() < 64 && ratio.v.bitLength() < 64) {
            due("entry", x.entry(i, j, ratio.u.longValue(), ratio.v.longValue()), 1);
            return;
        }
        int had = x.model().numbers.size();
        int made = build(x, ratio.u);
        if (!ratio.v.equals(BigInteger.ONE)) {
            made = x.quotient(made, build(x, ratio.v));
        }
        due("put", x.put(i, j, made), 1);
        dropTo(x, had);
    }

    /** What is written as a NUMBER, the next one; the last RIGHT side may be used, and is 0 then. */
    static int number(Pair x, String written) {
        Model.Ratio ratio = ratio(written);
        if (ratio.u.bitLength() < 64 && ratio.v.bitLength() < 64) {
            return x.value(ratio.u.longValue(), ratio.v.longValue());
        }
        int n = x.model().n;
        load(x, n - 1, n, written);
        int made = x.take(n - 1, n);
        x.entry(n - 1, n, 0, 1);
        return made;
    }

    /** By Horner, 62 bits at a time; what is made on the way stays. */
    private static int build(Pair x, BigInteger whole) {
        long sign = whole.signum();
        BigInteger size = whole.abs();
        int parts = Math.max(1, (size.bitLength() + 61) / 62);
        long mask = (1L << 62) - 1;
        int made = x.value(sign * (size.shiftRight(62 * (parts - 1)).longValue() & mask), 1);
        int base = parts > 1 ? x.value(1L << 62, 1) : made;
        for (int k = parts - 2; k >= 0; k--) {
            int scaled = x.act(2, made, base);
            made = x.act(0, scaled, x.value(sign * (size.shiftRight(62 * k).longValue() & mask), 1));
        }
        return made;
    }

    static void dropTo(Pair x, int count) {
        while (x.model().numbers.size() > count) {
            x.drop();
        }
    }

    static void fillNumbers(Pair x) {
        while (x.model().numbers.size() < MOST_NUMBERS) {
            x.value(7, 2);
        }
    }

    /** That the answer is a NUMBER, and is what is written, told by the class itself. */
    static void is(Pair x, int a, String written) {
        if (a < 0) {
            due("a NUMBER", "refused by " + a, written);
            return;
        }
        Model.Ratio ratio = ratio(written);
        due("NUMBER " + a + ", " + written, x.show(a), ratio.u + "/" + ratio.v);
    }

    /** That the ENTRY is what is written; needs room for one NUMBER. */
    static void entryIs(Pair x, int i, int j, String written) {
        is(x, x.take(i, j), written);
        x.drop();
    }

    static void unknownIs(Pair x, int j, String written) {
        is(x, x.unknown(j), written);
        x.drop();
    }

    static void determinantIs(Pair x, int way, String written) {
        int made = x.determinant(way);
        is(x, made, written);
        if (made >= 0) {
            x.drop();
        }
    }

    static void written(Pair x, int a, int digits, boolean up, String text) {
        due("signs of " + text, x.decimals(a, digits, up), text.length());
        due("THE TEXT", x.text(), text);
    }
}
