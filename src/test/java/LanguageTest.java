import java.lang.reflect.Constructor;
import java.lang.reflect.Field;
import java.lang.reflect.Method;
import java.lang.reflect.Modifier;
import java.nio.charset.StandardCharsets;
import java.nio.file.Files;
import java.nio.file.Path;
import java.util.Arrays;
import java.util.List;
import java.util.Set;
import java.util.TreeSet;

/** The public face, name by name, and LANGUAGE.md, rule by rule (LanguageRules; rule 7: NeverThrowsTest). */
public final class LanguageTest {
    private static final String FACE = "int guarantor(int)|int limit(int,int)|int pay(int,int)"
        + "|int store(int,int,int)|int order(int,int,int,int)|int stock(int,int,int)"
        + "|int allows(int,int,int)|int rate(int,int,int)|int terms(int,int)"
        + "|int load(int,int,int,int,int,int)|int withdraw(int)|int arrive(int,int,boolean,int)"
        + "|int match(int,int,int)|int split(int,int,int)|int use(int,int,int)|int shift(int,int,int)"
        + "|int extend(int,int)|int divert(int,int)|int days(int)|int undo()|int image(int)|int back(int)"
        + "|int ofGuarantor(int,int)|long total(int,int)|int ofStore(int,int)|int ofLoad(int,int)"
        + "|long sums(int,int)|int held(int,int)|int rateOn(int,int)|int allowance(int,int,int)"
        + "|int listed(int,int)|int room(int,int,int)|int cheapest(int,int,int)|int behind(int,int)"
        + "|int freed(int,int)|int lacks(int)|int best(int,int)|int explains(int,int,int,int)"
        + "|int would(int,int)|int dutyIf(int,int,int)|int dayOf(int,int)|int count(int)|int status()";

    private LanguageTest() {
    }

    public static void main(String[] args) throws Exception {
        publicFace();
        String source = Files.readString(Path.of("src/main/java/BondStores.java"), StandardCharsets.US_ASCII);
        List<String> faults = LanguageRules.faultsOf("BondStores", source);
        Check.isTrue("BondStores keeps to LANGUAGE.md, not: " + faults, faults.isEmpty());
        rulesSeeFaults();
        Check.end("LanguageTest");
    }

    private static void publicFace() throws Exception {
        Class<?> type = BondStores.class;
        int flags = type.getModifiers();
        Check.isTrue("public final", Modifier.isPublic(flags) && Modifier.isFinal(flags));
        Check.isTrue("of no package", type.getPackageName().isEmpty());
        Check.isTrue("nothing it comes from", type.getSuperclass() == Object.class && type.getInterfaces().length == 0);
        Set<String> found = new TreeSet<>();
        for (Method m : type.getMethods()) {
            if (m.getDeclaringClass() != Object.class) {
                Check.isTrue(m + " is of each object", !Modifier.isStatic(m.getModifiers()));
                found.add(told(m));
            }
        }
        for (Method m : type.getDeclaredMethods()) {
            Check.isTrue(m + " is public or private", Modifier.isPublic(m.getModifiers())
                || Modifier.isPrivate(m.getModifiers()));
        }
        Set<String> want = new TreeSet<>(Arrays.asList(FACE.split("\\|")));
        Check.isTrue("the face is " + found, found.equals(want));
        Constructor<?>[] made = type.getDeclaredConstructors();
        Check.isTrue("one constructor", made.length == 1 && Modifier.isPublic(made[0].getModifiers())
            && made[0].getParameterCount() == 0);
        Field[] fields = type.getFields();
        Check.isTrue("one constant", fields.length == 1 && fields[0].getName().equals("NONE")
            && fields[0].getType() == int.class && Modifier.isStatic(fields[0].getModifiers())
            && Modifier.isFinal(fields[0].getModifiers()));
        Check.due("NONE", (int) fields[0].get(null), -1);
        Check.isTrue("no class inside is of the face", type.getClasses().length == 0);
    }

    private static String told(Method m) {
        StringBuilder text = new StringBuilder();
        for (Class<?> p : m.getParameterTypes()) {
            text.append(text.length() == 0 ? "" : ",").append(p);
        }
        return m.getReturnType() + " " + m.getName() + "(" + text + ")";
    }

    /** A look that sees no fault anywhere tells nothing: so each is shown one of its kind. */
    private static void rulesSeeFaults() throws Exception {
        seesNone("private int a; public int f(int v) { return g(v); } private int g(int v) { return Math.max(v, a); }");
        seesNone("private static final int[] A = {1, 2}; public int f(int v) {"
            + " int s = 0; for (int i = 0; i < A.length && s < v; i++) { s += A[i]; } return s; }");
        source(1, "package a; public final class A { }");
        source(1, "public class A { }");
        source(1, "public final class A { } final class B { private B() { } }");
        source(4, "import java.util.Random; public final class A { }");
        rule(1, "int f() { return 1; }");
        rule(1, "protected int a;");
        rule(1, "public int a;");
        rule(1, "public static class B { }");
        rule(1, "protected static class B { }");
        rule(1, "public int f() { return f(1); } private int f(int v) { return v; }");
        rule(2, "class B { }");
        rule(2, "public void f() { class B { } }");
        rule(2, "public void f() { Object o = new Object() { }; }");
        rule(2, "public void f() { Runnable r = () -> { }; }");
        rule(2, "public void f() { Runnable r = this::f; }");
        rule(3, "private Object a;");
        rule(3, "private String[] a;");
        rule(3, "private int[][][] a;");
        rule(3, "private static class B { } private B[][] a;");
        rule(3, "public double f() { return 1; }");
        rule(3, "private java.util.Map<Integer, Integer> a;");
        rule(4, "public long f() { return System.nanoTime(); }");
        rule(4, "public int f() { return Integer.MAX_VALUE; }");
        rule(4, "public int f(int v) { return Math.addExact(v, 1); }");
        rule(4, "public void f() { System.out.println(); }");
        rule(4, "private static final String A = \"\u00e9\";");
        rule(4, "public int f() { return new java.util.Random(1).nextInt(); }");
        rule(4, "public void f() { Object o = new java.util.Random(1); }");
        rule(5, "private static int a;");
        rule(5, "private static final int[] A = new int[3];");
        rule(5, "private static final int[] A = {1}; static { A[0] = 1; }");
        rule(5, "private static class B { private static int a; }");
        rule(5, "private static final java.util.List<Integer> A = null;");
        rule(6, "public void f() { throw null; }");
        rule(6, "public void f() { try { f(); } finally { return; } }");
        rule(6, "public void f(int v) { assert v > 0; }");
        rule(6, "public void f() { synchronized (this) { } }");
        rule(6, "public synchronized void f() { }");
        rule(6, "public void f() throws Exception { }");
        rule(6, "public boolean f(String a, String b) { return a == b; }");
        rule(6, "public boolean f(Integer a, Integer b) { return a != b; }");
        rule(6, "private static final class B { } public B f(Object o) { return (B) o; }");
        rule(6, "public boolean f(Object o) { return o instanceof String; }");
        rule(6, "private static final class B { public int hashCode() { return 1; } }");
        rule(8, "public int f(int v) { return v == 0 ? 0 : g(v); } private int g(int v) { return f(v - 1); }");
        rule(9, "public void f() { while (true) { } }");
        rule(9, "public void f() { for (;;) { } }");
        rule(9, "public void f(int v) { for (int i = 0; i < v; ) { } }");
        rule(9, "public void f(int v) { int i = 0; do { i++; } while (i != v); }");
        rule(10, "public String f(int v) { return \"a\" + v; }");
        rule(11, "public void f(int a, int b, int c, int d, int e, int g, int h, int i) { }");
        rule(11, "public void f() {" + "\n".repeat(60) + "}");
        rule(11, chain(9));
        seesNone(chain(8));
        rule(11, members("private static class B#{ }", 12));
        seesNone(members("private static class B#{ }", 11));
        rule(11, members("private int a#;", 21));
        seesNone(members("private int a#;", 20));
        rule(12, "private static class B { } public void f() { for (int i = 0; i < 9; i++) { B b = new B(); } }");
        rule(12, "private static class B { B() { f(this); } private static void f(B b) { } }");
        rule(12, "public void f() { for (int i = 0; i < 9; i++) { int[] row = new int[i]; } }");
        rule(12, "private static class B { B() { f(); } void f() { } }");
        seesNone("private static final class B { private final int[] a; B(int v) { this.a = new int[g(v)]; }"
            + " private int g(int v) { return v < 0 ? 0 : 1; } }");
    }

    /** So many methods that stand open at once. */
    private static String chain(int levels) {
        StringBuilder text = new StringBuilder("public void f() { g1(); }");
        for (int i = 1; i < levels; i++) {
            text.append("private void g").append(i).append("() { ");
            text.append(i < levels - 1 ? "g" + (i + 1) + "();" : "").append(" }");
        }
        return text.toString();
    }

    private static String members(String each, int many) {
        StringBuilder text = new StringBuilder();
        for (int i = 0; i < many; i++) {
            text.append(each.replace("#", Integer.toString(i)));
        }
        return text.toString();
    }

    private static void rule(int number, String members) throws Exception {
        source(number, around(members));
    }

    private static void source(int number, String source) throws Exception {
        List<String> faults = LanguageRules.faultsOf("A", source);
        Check.isTrue("rule " + number + " is broken by " + source + ", told is " + faults,
            faults.stream().anyMatch(f -> f.startsWith(number + ":")));
    }

    private static void seesNone(String members) throws Exception {
        List<String> faults = LanguageRules.faultsOf("A", around(members));
        Check.isTrue("no rule is broken by " + members + ", told is " + faults, faults.isEmpty());
    }

    private static String around(String members) {
        return "public final class A { public A() { } " + members + "}";
    }
}
