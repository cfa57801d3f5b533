import java.io.IOException;
import java.lang.reflect.Constructor;
import java.lang.reflect.Field;
import java.lang.reflect.Method;
import java.lang.reflect.Modifier;
import java.nio.file.Files;
import java.nio.file.Path;
import java.util.Arrays;
import java.util.List;
import java.util.Set;
import java.util.TreeSet;

/** The rules of LANGUAGE.md: the face as it is compiled, and the source as SourceRules reads it. */
public final class LanguageTest extends Checks {
    static final Path SOURCE = Path.of("src/main/java/GameTables.java");
    private static final Set<String> FACE = new TreeSet<>(List.of(
        "int game(int, int)", "int pay(int, int, int, int)", "int paid(int, int, int)", "int weight(int, int, int)",
        "long mean(int, int)", "int answers(int)", "int is()", "int why()", "int worse(int, int)", "int left(int)",
        "int times()", "int sure(int)", "int hold(int)", "int corners(int)", "int corner(int, int, int, int)",
        "int balances()", "long balance(int, int)", "int find()", "int turn()", "int raise(int, int, int)",
        "int scale(int, int)", "int status(int)"));

    public static void main(String[] args) throws IOException {
        face();
        fieldsOfTheFace();
        classesInside();
        signs();
        for (String broken : SourceRules.brokenIn(SOURCE)) {
            must(false, broken);
        }
        rulesAreSeen();
        end();
    }

    private static void must(boolean holds, String what) {
        sentence("LANGUAGE.md, " + what);
        due(1, holds ? 1 : 0);
    }

    private static void face() {
        Class<?> c = GameTables.class;
        must(Modifier.isPublic(c.getModifiers()) && Modifier.isFinal(c.getModifiers()), "rule 1: public and final");
        Constructor<?>[] made = c.getDeclaredConstructors();
        must(made.length == 1 && Modifier.isPublic(made[0].getModifiers()) && made[0].getParameterCount() == 0,
            "rule 1: one public constructor without parameters");
        Set<String> publics = new TreeSet<>();
        for (Method method : c.getDeclaredMethods()) {
            if (!Modifier.isPrivate(method.getModifiers())) {
                must(Modifier.isPublic(method.getModifiers()), "rule 1: " + method + " is neither public nor private");
                publics.add(told(method));
            }
        }
        must(publics.equals(FACE), "rule 1: the face is " + publics);
        for (Method method : c.getDeclaredMethods()) {
            must(Modifier.isPublic(method.getModifiers()) || !bearsPublicName(method), "rule 1: the name of " + method);
        }
    }

    private static String told(Method method) {
        List<String> types = Arrays.stream(method.getParameterTypes()).map(Class::getSimpleName).toList();
        return method.getReturnType().getSimpleName() + " " + method.getName() + "(" + String.join(", ", types) + ")";
    }

    private static boolean bearsPublicName(Method method) {
        return FACE.stream().anyMatch(face -> face.contains(" " + method.getName() + "("));
    }

    private static void fieldsOfTheFace() {
        for (Field field : GameTables.class.getDeclaredFields()) {
            must(Modifier.isPrivate(field.getModifiers()), "rule 1: " + field + " is not private");
        }
    }

    private static void classesInside() {
        for (Class<?> c : GameTables.class.getDeclaredClasses()) {
            must(Modifier.isStatic(c.getModifiers()), "rule 2: " + c + " is not static");
            must(!Modifier.isPublic(c.getModifiers()) && !Modifier.isProtected(c.getModifiers()), "rule 1: " + c);
            for (Method method : c.getDeclaredMethods()) {
                must(!bearsPublicName(method), "rule 1: the name of " + method);
            }
        }
    }

    private static void signs() throws IOException {
        must(Files.readString(SOURCE).chars().allMatch(sign -> sign > 0 && sign < 128), "rule 4: signs are 1 to 127");
    }

    /** A class that breaks the rules, so that a rule which is no longer looked at is noticed. */
    private static void rulesAreSeen() throws IOException {
        Path directory = Files.createTempDirectory("rules");
        Path file = directory.resolve("Broken.java");
        Files.writeString(file, String.join("\n",
            "import java.util.HashMap;",
            "public class Broken {",
            "  static int counted = 0;",
            "  static { counted = 1; }",
            "  class Inner { }",
            "  int a(int b, int c, int d, int e, int f, int g, int h, int i) { return b(b); }",
            "  int b(int x) { return c(x); }",
            "  int c(int x) { return d(x); }",
            "  int d(int x) { return e(x); }",
            "  int e(int x) { return f(x); }",
            "  int f(int x) { return g(x); }",
            "  int g(int x) { return h(x); }",
            "  int h(int x) { return i(x); }",
            "  int i(int x) { return Math.addExact(x, 1); }",
            "  int again(int x) { return again(x); }",
            "  void ends() { for (;;) { } }",
            "  void late() { while (true) { } }",
            "  void fails() { try { throw new RuntimeException(); } catch (RuntimeException e) { } }",
            "  Runnable later() { return () -> { }; }",
            "  boolean same(Object x) { return ((String) x).equals(toString()); }",
            "  Object[][] wide = new Object[2][2];",
            "  int over(int x, int y) { return x / y; }",
            "  void tall() {", "\n".repeat(70), "  }",
            "}"));
        String broken = String.join("\n", SourceRules.brokenIn(file));
        for (String rule : new String[] {
            "rule 2: a lambda", "rule 2: Inner", "rule 3: Object[][]", "rule 4: import", "rule 4: java.lang.Math.addExact",
            "rule 5: counted", "rule 5: a static block", "rule 6: throw", "rule 6: try", "rule 6: a cast",
            "rule 7: x / y", "rule 8: again", "rule 9: for", "rule 9: while", "rule 11: a takes 8", "rule 11: a goes 9 deep",
            "rule 11: tall has"}) {
            must(broken.contains(rule), rule + " is not seen");
        }
        Files.delete(file);
        Files.delete(directory);
    }
}
