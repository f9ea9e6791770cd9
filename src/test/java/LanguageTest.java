import java.io.IOException;
import java.lang.reflect.Array;
import java.lang.reflect.Constructor;
import java.lang.reflect.Executable;
import java.lang.reflect.Field;
import java.lang.reflect.Method;
import java.lang.reflect.Modifier;
import java.nio.file.Files;
import java.nio.file.Path;
import java.util.ArrayList;
import java.util.Arrays;
import java.util.IdentityHashMap;
import java.util.List;
import java.util.Map;
import java.util.Set;
import java.util.TreeSet;

/** The face, what of LANGUAGE.md can be seen without reading, and the room that a run takes. */
public final class LanguageTest {
    private static final String[] FACE = {
        "int value(long, long)", "int act(int, int, int)", "int quotient(int, int) ArithmeticException",
        "int drop()", "int compare(int, int)", "int about(int, int)",
        "int limb(int, int, int) IndexOutOfBoundsException", "int entry(int, int, long, long)",
        "int put(int, int, int)", "int take(int, int)", "int solve(int)", "int answers()",
        "int unknown(int)", "int pivot(int, int)", "int holds(int)", "int determinant(int)",
        "int rest(int, int)", "int meet(int, int)", "int joined(int)", "int recover()", "int part()",
        "int decimals(int, int, boolean)", "int sign(int)", "int count(int)", "int clear()"};
    private static final String[] NOT_IN_THE_SOURCE = {"package ", "import ", "->", "::", "catch", "finally",
        "try {", "synchronized", "assert ", "native ", "volatile ", "Exact(", "System.out", "System.nano",
        "System.current", "Random", "Thread", "float", "double", "BigInteger", "hashCode", "equals("};

    private static int wrong;

    public static void main(String[] args) throws IOException, IllegalAccessException {
        face();
        classesInside();
        source();
        room();
        System.out.println(wrong == 0 ? "the face, the language and the room are kept to" : wrong + " wrong");
        if (wrong != 0) {
            System.exit(1);
        }
    }

    private static void check(boolean holds, String otherwise) {
        if (!holds) {
            wrong++;
            System.out.println(otherwise);
        }
    }

    private static String listed(Class<?>[] types) {
        List<String> names = new ArrayList<>();
        for (Class<?> type : types) {
            names.add(type.getSimpleName());
        }
        return String.join(", ", names);
    }

    private static void face() throws IllegalAccessException {
        Class<?> type = FractionRows.class;
        int modifiers = type.getModifiers();
        check(Modifier.isPublic(modifiers) && Modifier.isFinal(modifiers), "the class is public and final");
        Set<String> methods = new TreeSet<>();
        for (Method method : type.getDeclaredMethods()) {
            if (!Modifier.isPrivate(method.getModifiers())) {
                String thrown = listed(method.getExceptionTypes());
                methods.add(method.getReturnType().getSimpleName() + " " + method.getName() + "("
                    + listed(method.getParameterTypes()) + ")" + (thrown.isEmpty() ? "" : " " + thrown));
            }
        }
        Set<String> due = new TreeSet<>(Arrays.asList(FACE));
        check(methods.equals(due), "methods are " + methods + ", due are " + due);
        Constructor<?>[] constructors = type.getDeclaredConstructors();
        check(constructors.length == 1 && Modifier.isPublic(constructors[0].getModifiers())
            && listed(constructors[0].getParameterTypes()).equals("int"), "one constructor, of an int");
        Set<String> constants = new TreeSet<>();
        for (Field field : type.getDeclaredFields()) {
            if (!Modifier.isPrivate(field.getModifiers())) {
                constants.add(Modifier.toString(field.getModifiers()) + " " + field.getName() + " " + field.get(null));
            }
        }
        String[] names = {"BAD", "ZERO", "GREW", "FULL", "STATE", "NONE"};
        Set<String> dueConstants = new TreeSet<>();
        for (int i = 0; i < names.length; i++) {
            dueConstants.add("public static final " + names[i] + " " + (-1 - i));
        }
        check(constants.equals(dueConstants), "constants are " + constants);
    }

    private static void classesInside() {
        Set<String> faceNames = new TreeSet<>();
        for (String line : FACE) {
            faceNames.add(line.substring(4, line.indexOf('(')));
        }
        Class<?>[] inside = FractionRows.class.getDeclaredClasses();
        check(inside.length <= 12, "classes inside: " + inside.length);
        for (Class<?> type : inside) {
            int modifiers = type.getModifiers();
            check(Modifier.isStatic(modifiers) && !Modifier.isPublic(modifiers)
                && !Modifier.isProtected(modifiers), type + " is static, private or package-visible");
            for (Method method : type.getDeclaredMethods()) {
                check(!faceNames.contains(method.getName()), method + " bears the name of a public one");
            }
            shape(type);
        }
        shape(FractionRows.class);
    }

    private static void shape(Class<?> type) {
        int own = 0;
        for (Field field : type.getDeclaredFields()) {
            boolean isStatic = Modifier.isStatic(field.getModifiers());
            own += isStatic ? 0 : 1;
            check(!isStatic || Modifier.isFinal(field.getModifiers()), field + " is final");
        }
        check(own <= 20, type + " has " + own + " fields");
        List<Executable> all = new ArrayList<>(Arrays.asList(type.getDeclaredMethods()));
        all.addAll(Arrays.asList(type.getDeclaredConstructors()));
        for (Executable method : all) {
            check(method.getParameterCount() <= 7, method + " has too many parameters");
        }
    }

    private static void source() throws IOException {
        String text = Files.readString(Path.of("src/main/java/FractionRows.java"));
        String code = text.replaceAll("(?s)/\\*.*?\\*/", "").replaceAll("//[^\n]*", "");
        for (String word : NOT_IN_THE_SOURCE) {
            check(!code.contains(word), "the source has '" + word + "'");
        }
        check(text.chars().allMatch(c -> c < 128), "the source is plain");
    }

    /** The objects and arrays that can be reached, and their fields and elements. */
    private static int[] reach(Object root) throws IllegalAccessException {
        Map<Object, Boolean> seen = new IdentityHashMap<>();
        List<Object> left = new ArrayList<>();
        left.add(root);
        seen.put(root, true);
        int cells = 0;
        while (!left.isEmpty()) {
            Object object = left.remove(left.size() - 1);
            List<Object> parts = new ArrayList<>();
            if (object.getClass().isArray()) {
                cells += Array.getLength(object);
                if (object instanceof Object[]) {
                    parts.addAll(Arrays.asList((Object[]) object));
                }
            } else {
                for (Field field : object.getClass().getDeclaredFields()) {
                    if (!Modifier.isStatic(field.getModifiers())) {
                        cells++;
                        field.setAccessible(true);
                        if (!field.getType().isPrimitive()) {
                            parts.add(field.get(object));
                        }
                    }
                }
            }
            for (Object part : parts) {
                check(part != null, "a reference is null");
                if (part != null && seen.put(part, true) == null) {
                    left.add(part);
                }
            }
        }
        return new int[] {seen.size(), cells};
    }

    private static void room() throws IllegalAccessException {
        int[] taken = reach(new FractionRows(5));
        check(taken[0] <= 1000 && taken[1] <= 10000, "an object takes " + taken[0] + " and " + taken[1]);
        dearCalls();
        com.sun.management.ThreadMXBean threads =
            (com.sun.management.ThreadMXBean) java.lang.management.ManagementFactory.getThreadMXBean();
        long before = threads.getThreadAllocatedBytes(Thread.currentThread().getId());
        dearCalls();
        long made = threads.getThreadAllocatedBytes(Thread.currentThread().getId()) - before;
        check(made < 100000, "a run of dear calls makes " + made + " bytes");
    }

    private static void dearCalls() {
        FractionRows x = new FractionRows(5);
        for (int i = 0; i < 5; i++) {
            for (int j = 0; j <= 5; j++) {
                x.entry(i, j, 1000003L * (i + 2) * (j + 1) * (i + j + 1) + 17 * i * i + j, 9973);
            }
        }
        for (int k = 0; k < 60; k++) {
            x.solve(k % 2);
            x.holds(k % 5);
            x.unknown(k % 5);
            int made = x.determinant(k % 3);
            x.rest(made, 2147483647);
            x.decimals(made, 30, true);
            x.meet(2147483647 - 18 * (k % 2), k);
            x.recover();
        }
    }
}
