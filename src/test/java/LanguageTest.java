import java.lang.reflect.Constructor;
import java.lang.reflect.Field;
import java.lang.reflect.Method;
import java.lang.reflect.Modifier;
import java.nio.file.Files;
import java.nio.file.Path;
import java.util.Arrays;
import java.util.List;
import java.util.Set;
import java.util.TreeSet;
import java.util.regex.Matcher;
import java.util.regex.Pattern;

/** What of LANGUAGE.md can be seen from outside: the face, and words that may not stand there. */
public final class LanguageTest {
    private static final String[] FACE = {
        "int game(int, int)", "int pay(int, int, int, int)", "int paid(int, int, int)", "int weight(int, int, int)",
        "long mean(int, int)", "int answers(int)", "int is()", "int why()", "int worse(int, int)", "int left(int)",
        "int times()", "int sure(int)", "int hold(int)", "int corners(int)", "int corner(int, int, int, int)",
        "int balances()", "long balance(int, int)", "int find()", "int turn()", "int raise(int, int, int)",
        "int scale(int, int)", "int status(int)"
    };
    private static final String[] FORBIDDEN = {
        "\\b(throw|throws|try|catch|synchronized|assert|import|package|protected|var|native|volatile)\\b",
        "->", "::", "Exact\\b", "\\b(equals|hashCode|toString|System|Thread|Object|Random)\\b", "\\bwhile\\b", "@",
        "static \\{", "[^\\x00-\\x7f]"
    };
    private static final int LONGEST_METHOD = 60;

    private static int wrong = 0;

    public static void main(String[] args) throws Exception {
        face();
        classesInside();
        words(Files.readString(Path.of("src/main/java/GameTables.java")));
        if (wrong > 0) {
            System.exit(1);
        }
    }

    private static void must(boolean holds, String what) {
        if (!holds) {
            wrong++;
            System.out.println("LANGUAGE.md: " + what);
        }
    }

    private static void face() {
        Class<?> c = GameTables.class;
        must(Modifier.isPublic(c.getModifiers()) && Modifier.isFinal(c.getModifiers()), "the class is public and final");
        Constructor<?>[] made = c.getDeclaredConstructors();
        must(made.length == 1 && Modifier.isPublic(made[0].getModifiers()) && made[0].getParameterCount() == 0,
            "one public constructor without parameters");
        Set<String> publics = new TreeSet<>();
        Set<String> publicNames = new TreeSet<>();
        for (Method method : c.getDeclaredMethods()) {
            if (!Modifier.isPrivate(method.getModifiers())) {
                must(Modifier.isPublic(method.getModifiers()), method + " is neither public nor private");
                publics.add(told(method));
                publicNames.add(method.getName());
            }
        }
        must(publics.equals(new TreeSet<>(Arrays.asList(FACE))), "the face is " + publics);
        for (Method method : c.getDeclaredMethods()) {
            must(!Modifier.isPrivate(method.getModifiers()) || !publicNames.contains(method.getName()),
                method + " bears the name of a public one");
        }
        for (Field field : c.getDeclaredFields()) {
            must(Modifier.isPrivate(field.getModifiers()), field + " is not private");
            must(!Modifier.isStatic(field.getModifiers()) || Modifier.isFinal(field.getModifiers()), field + " is static");
        }
    }

    private static String told(Method method) {
        List<String> types = Arrays.stream(method.getParameterTypes()).map(Class::getSimpleName).toList();
        return method.getReturnType().getSimpleName() + " " + method.getName() + "(" + String.join(", ", types) + ")";
    }

    private static void classesInside() {
        Class<?>[] inside = GameTables.class.getDeclaredClasses();
        must(inside.length < 12, "at most twelve classes");
        for (Class<?> c : inside) {
            must(Modifier.isStatic(c.getModifiers()), c + " is not static");
            must(c.getDeclaredFields().length <= 20, c + " has more than twenty fields");
            for (Method method : c.getDeclaredMethods()) {
                must(method.getParameterCount() <= 7, method + " takes more than seven");
                must(Arrays.stream(FACE).noneMatch(f -> f.contains(" " + method.getName() + "(")),
                    method + " bears the name of a public one");
            }
        }
    }

    private static void words(String source) {
        String code = source.replaceAll("(?s)/\\*.*?\\*/", "").replaceAll("//[^\n]*", "");
        for (String pattern : FORBIDDEN) {
            Matcher found = Pattern.compile(pattern).matcher(code);
            must(!found.find(), "'" + pattern + "' stands in the source");
        }
        int start = 0;
        int number = 0;
        for (String line : source.split("\n")) {
            number++;
            if (line.matches(" {4}( {4})?[a-zA-Z].*\\) \\{")) {
                start = number;
            }
            if (line.matches(" {4}( {4})?\\}")) {
                must(number - start < LONGEST_METHOD, "the method at line " + start + " is too long");
                start = number;
            }
        }
    }
}
