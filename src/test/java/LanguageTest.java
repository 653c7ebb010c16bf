import java.io.IOException;
import java.nio.file.Files;
import java.nio.file.Path;
import java.util.List;
import java.util.Set;

/** Holds the class against ../shared/LANGUAGE.md, and Language against sources that break a rule each. */
final class LanguageTest {
    /** The only calls that make objects, one each: questions and other changes make none. */
    private static final Set<String> MAKINGS = Set.of("village makes Village", "lamp makes Lamp", "meter makes Meter",
        "satellite makes Satellite", "read makes Reading");

    private static final String[][] BROKEN = {
        {"2", "void f() { Runnable r = () -> { }; }"},
        {"2", "int f() { class In { } return 1; }"},
        {"2", "class In { }"},
        {"6", "int f() { assert 1 > 0; return 1; }"},
        {"9", "int f() { while (true) { } }"},
        {"3", "double f() { return 1; }"},
        {"3", "int[][][] row;"},
        {"3", "ArrayList<String> texts;"},
        {"3", "java.util.HashMap<Integer, Integer> map;"},
        {"4", "int f(String a) { return a.hashCode(); }"},
        {"4", "int f(int a) { return Math.addExact(a, 1); }"},
        {"4", "void f(ArrayList<Integer> a, Integer b) { a.remove(b); }"},
        {"5", "static int state;"},
        {"5", "static { }"},
        {"6", "void f(RuntimeException e) { throw e; }"},
        {"6", "void f() { throw new Error(); }"},
        {"6", "NightValley(int a) { throw new IllegalStateException(); }"},
        {"6", "void f() { try { g(); } catch (Exception e) { } } void g() { }"},
        {"6", "void f() { try { g(); } finally { } } void g() { }"},
        {"6", "public String toString() { return null; }"},
        {"8", "public int f() { return f(); }"},
        {"8", "public int f() { return g(); } private int g() { return f(); }"},
        {"9", "void f() { for (;;) { } }"},
        {"10", "String f(int a) { return \"a\" + a; }"},
        {"11", "int f(int a, int b, int c, int d, int e, int g, int h, int i) { return 1; }"},
        {"11", "int f() {" + "\n".repeat(60) + "return 1; }"},
        {"11", "int " + twentyOneNames() + ";"},
        {"11", eightBelow()},
        {"11", twelveInner()},
        {"12", "void f(ArrayList<Integer> a) { for (int b : a) { } }"},
        {"12", "void f() { for (int i = 0; i < 9; i++) { new NightValley(); } }"},
        {"12", "void f() { for (int i = 0; i < 9; i++) { int[] row = new int[9]; } }"},
    };

    public static void main(String[] args) throws IOException {
        Language language = Language.read(Files.readString(Path.of("src/main/java/NightValley.java")));
        Check.due("the class keeps the rules: " + language.faults(), language.faults().size(), 0);
        Check.due("what makes objects: " + language.makings(), language.makings().equals(MAKINGS), true);
        for (String[] broken : BROKEN) {
            List<String> faults = Language.read(classOf(broken[1])).faults();
            boolean seen = !faults.isEmpty() && faults.stream().anyMatch(fault -> fault.startsWith("rule " + broken[0] + ":"));
            Check.due("rule " + broken[0] + " is seen broken in " + broken[1] + ", by " + faults, seen, true);
        }
        Check.due("nothing is seen in a class of nothing", Language.read(classOf("")).faults().size(), 0);
        Check.due("a package", Language.read("package a; " + classOf("")).faults().isEmpty(), false);
        Check.due("an import", Language.read("import java.io.File; " + classOf("")).faults().isEmpty(), false);
        Check.due("a second class", Language.read(classOf("") + " class B { }").faults().isEmpty(), false);
        Check.end();
    }

    private static String classOf(String body) {
        return "import java.util.ArrayList; public final class NightValley { public NightValley() { } " + body + "\n}";
    }

    private static String twentyOneNames() {
        StringBuilder names = new StringBuilder("f0");
        for (int i = 1; i <= 20; i++) {
            names.append(", f").append(i);
        }
        return names.toString();
    }

    private static String twelveInner() {
        StringBuilder classes = new StringBuilder();
        for (int i = 0; i < 12; i++) {
            classes.append("static class In").append(i).append(" { } ");
        }
        return classes.toString();
    }

    /** A public method with a chain of eight below it. */
    private static String eightBelow() {
        StringBuilder chain = new StringBuilder("public void f() { f1(); } ");
        for (int i = 1; i < 8; i++) {
            chain.append("private void f" + i + "() { f" + (i + 1) + "(); } ");
        }
        return chain.append("private void f8() { } ").toString();
    }
}
