import java.io.IOException;
import java.nio.file.Files;
import java.nio.file.Path;

/** The program keeps to LANGUAGE.md, and what would not keep to it is found. */
public final class LanguageTest {
    public static void main(String[] args) throws IOException {
        String program = Files.readString(Path.of("src/main/java/FewBits.java"));
        Check.test("the program", () -> Check.dueText("what it breaks", String.join("\n", Rules.brokenBy(program)), ""));
        Check.test("the program's own signs", () -> Check.due("all of them 0 to 255",
            program.chars().allMatch(sign -> sign <= 255), true));
        found("rule 1", "public final class FewBits { }\nclass Beside { }");
        found("rule 1", "package few;\npublic final class FewBits { }");
        found("rule 1", "public class FewBits { }");
        foundInside("rule 1", "public static class Inner { }");
        foundInside("rule 2", "void act() { class Local { } }");
        foundInside("rule 2", "int f(Own own) { return own.act(x -> x); }");
        foundInside("rule 2", "int f(Own own) { return own.act(Own::one); }");
        foundInside("rule 3", "Object kept;");
        foundInside("rule 4", "long f() { return System.nanoTime(); }");
        foundInside("rule 4", "int f(int i) { return Math.addExact(i, 1); }");
        found("rule 4", "import java.util.Random;\npublic final class FewBits { }");
        foundInside("rule 5", "static int calls;");
        foundInside("rule 5", "static { }");
        foundInside("rule 6", "void f() { throw new Error(); }");
        foundInside("rule 6", "void f(int i) { throw new RuntimeException(\"at \" + i); }");
        foundInside("rule 6", "FewBits() { throw new RuntimeException(); }");
        foundInside("rule 6", "void f() { try { g(); } finally { g(); } }");
        foundInside("rule 6", "synchronized void f() { }");
        foundInside("rule 6", "void f() { assert 1 > 0; }");
        foundInside("rule 6", "int f(FewBits bits) { return bits.hashCode(); }");
        foundInside("rule 9", "void f() { for (;;) { } }");
        foundInside("rule 9", "void f() { while (true) { } }");
        foundInside("rule 10", "String f(int i) { return \"\" + i; }");
        foundInside("rule 11", "void f(int a, int b, int c, int d, int e, int g, int h, int i) { }");
        foundInside("rule 11", "void f() {" + "g();\n".repeat(60) + "}");
        foundInside("rule 11", "int f(int i) { return i > 0 ? f(i - 1) : 0; }");
        foundInside("rule 12", "void f() { for (int i = 0; i < 9; i++) { keep(new FewBits()); } }");
        foundInside("rule 12", "int[] f() { return new int[9]; }");
        Check.done();
    }

    private static void foundInside(String rule, String member) {
        found(rule, "public final class FewBits { " + member + " }");
    }

    private static void found(String rule, String text) {
        Check.test(rule + ", broken by " + text.lines().findFirst().orElse(""),
            () -> Check.due("found", Rules.brokenBy(text).stream().anyMatch(line -> line.startsWith(rule + ":")), true));
    }
}
