import java.io.IOException;
import java.nio.file.Files;
import java.nio.file.Path;
import java.util.List;

/** The class keeps to ../shared/LANGUAGE.md; and a class that does not would be found out. */
public final class RulesTest {
    private static final Path SOURCE = Path.of("src/main/java/ChairCredits.java");

    private RulesTest() {
    }

    public static void main(String[] args) throws IOException {
        String source = Files.readString(SOURCE);
        Check.title("LANGUAGE.md");
        for (String breach : Rules.breaches(source)) {
            Check.holds(breach, false);
        }
        Check.title("what breaks LANGUAGE.md");
        for (String[] breach : breaches()) {
            List<String> found = Rules.breaches(with(source, breach[1]));
            boolean isFound = found.stream().anyMatch(f -> f.startsWith("rule " + breach[0] + ","));
            Check.holds("rule " + breach[0] + " is broken by \"" + breach[1] + "\", found: " + found, isFound);
        }
        Check.title("what LANGUAGE.md leaves");
        for (String fine : fine()) {
            List<String> found = Rules.breaches(with(source, fine));
            Check.holds("no rule is broken by \"" + fine + "\", found: " + found, found.isEmpty());
        }
        Check.end();
    }

    /** The source with more members at the end of its class. */
    private static String with(String source, String members) {
        return source.substring(0, source.lastIndexOf('}')) + members + "\n}\n";
    }

    private static String[] fine() {
        return new String[] {
            "private static int f(int a) { return a / 3 % PORTS; }",
            "private static boolean f(int a, int b) { return b > 0 && a % b == 0; }",
            "private int[][] a; private String b; private Box[] c;",
            "private static final int[] A = {1, 2}; private static final String B = \"a\";",
            "private static int f(String a) { return Math.max(a.length(), Integer.bitCount(3)); }",
            "private static void f(int a, int b, int c, int d, int e, int g, int h) { }",
            longMethod(60), manyFields(20), manyClasses(8), chain(8)};
    }

    /** A rule's number each, and what breaks it. */
    private static String[][] breaches() {
        return new String[][] {
            {"0", "} class Other {"},
            {"1", "private int pass() { return 0; }"},
            {"1", "private static final class A { private int count() { return 0; } }"},
            {"1", "public static final class A { }"},
            {"2", "private final class A { }"},
            {"2", "private static void f() { class A { } }"},
            {"2", "private static void f() { Object a = new Object() { }; }"},
            {"2", "private static Runnable f() { return () -> { }; }"},
            {"2", "private static Runnable f() { return ChairCredits::new; }"},
            {"3", "private int[][][] a;"},
            {"3", "private Box[][] a;"},
            {"3", "private String[] a;"},
            {"3", "private java.util.Map<Integer, Integer> a;"},
            {"3", "private static Object f() { return null; }"},
            {"4", "private static int f(int a) { return Math.addExact(a, a); }"},
            {"4", "private static int f(String a) { return a.hashCode(); }"},
            {"4", "private static long f() { return System.nanoTime(); }"},
            {"4", "private static void f() { System.out.println(); }"},
            {"4", "private static Object f() { return new java.util.Random(); }"},
            {"4", "private static int f() { return Integer.valueOf(3).intValue(); }"},
            {"4", "private static final String A = \"\u00e9\";"},
            {"5", "private static int a = 0;"},
            {"5", "private static final Box A = new Box();"},
            {"5", "static { }"},
            {"6", "private static void f() { throw new Error(); }"},
            {"6", "private static void f() { try { f(); } finally { } }"},
            {"6", "private static void f() { try { f(); } catch (Error e) { } }"},
            {"6", "private void f() { synchronized (this) { } }"},
            {"6", "private static void f(int a) { assert a > 0; }"},
            {"6", "public String toString() { return null; }"},
            {"6", "private static boolean f(String a, String b) { return a == b; }"},
            {"6", "private static Box f(Object a) { return (Box) a; }"},
            {"7", "private static int f(int a, int b) { return a / b; }"},
            {"7", "private static boolean f(int a, int b) { return a > 0 && a % b == 0; }"},
            {"7", "private static int f(int a) { return a % 0; }"},
            {"7", "private static void f(int a, int b) { a /= b; }"},
            {"8", "private static int f(int a) { return f(a); }"},
            {"8", "private static int f(int a) { return g(a); } private static int g(int a) { return f(a); }"},
            {"9", "private static void f() { for (;;) { } }"},
            {"9", "private static void f() { while (true) { } }"},
            {"9", "private static void f() { do { } while (true); }"},
            {"10", "private static String f(String a) { return a + 1; }"},
            {"10", "private static void f(String a) { a += 1; }"},
            {"10", "private static void f(String a) { switch (a) { default: break; } }"},
            {"11", "private static void f(int a, int b, int c, int d, int e, int g, int h, int i) { }"},
            {"11", longMethod(61)}, {"11", manyFields(21)}, {"11", manyClasses(9)}, {"11", chain(9)},
            {"12", "private static void f() { int[] a = new int[3]; }"},
            {"12", "private static void f() { Box a = new Box(); }"}};
    }

    private static String numbered(String text, int times) {
        StringBuilder all = new StringBuilder();
        for (int i = 0; i < times; i++) {
            all.append(text.replace("#", "" + i));
        }
        return all.toString();
    }

    private static String longMethod(int lines) {
        return "private static void f() {\n" + ";\n".repeat(lines - 2) + "}";
    }

    private static String manyFields(int fields) {
        return "private static final class A { " + numbered("private int a#; ", fields) + "}";
    }

    /** Besides the four that are there. */
    private static String manyClasses(int classes) {
        return numbered("private static final class A# { }\n", classes);
    }

    /** Methods, each of which calls the next one. */
    private static String chain(int methods) {
        StringBuilder all = new StringBuilder("private static void f1() { }");
        for (int i = 2; i <= methods; i++) {
            all.append(" private static void f" + i + "() { f" + (i - 1) + "(); }");
        }
        return all.toString();
    }
}
