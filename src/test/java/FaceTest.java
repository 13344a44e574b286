import java.io.IOException;
import java.lang.reflect.Constructor;
import java.lang.reflect.Field;
import java.lang.reflect.Method;
import java.lang.reflect.Modifier;
import java.nio.file.Files;
import java.nio.file.Path;
import java.util.Arrays;
import java.util.Set;
import java.util.TreeSet;
import java.util.stream.Collectors;

/** The public face is the document's and no more, and the source keeps to what can be seen of LANGUAGE.md. */
public final class FaceTest {
    private static final String[] FACE = {
        "void today(int) IllegalArgumentException",
        "int rule(int, int, int) IllegalArgumentException UnsupportedOperationException",
        "int op(int, int, int) NoSuchElementException IllegalArgumentException IllegalStateException"
            + " UnsupportedOperationException",
        "int make(int) NoSuchElementException IllegalStateException",
        "void fact(int, int) IllegalArgumentException",
        "int ask(int, int) IllegalArgumentException",
        "void fallback(int, int) IllegalArgumentException",
        "int edition(int, int, int) IllegalArgumentException",
        "int failed(int, int) IllegalArgumentException",
        "int handle(int) NoSuchElementException IllegalStateException UnsupportedOperationException",
        "int by(int) IllegalArgumentException IllegalStateException",
        "int keep() UnsupportedOperationException",
        "int compare(int, int) NoSuchElementException",
        "boolean same(int, int) NoSuchElementException",
        "void shadow(int, int, int) NoSuchElementException IllegalArgumentException",
        "int otherwise(int, int) IllegalArgumentException",
        "int divide(int, int) ArithmeticException",
        "int told(int, int) NoSuchElementException IllegalArgumentException",
        "int count(int)"};

    private static final String[] OUTSIDE_THE_LANGUAGE = {
        "\\bpackage\\b", "\\bcatch\\b", "\\btry\\b", "\\bfinally\\b", "\\bsynchronized\\b", "\\bassert\\b",
        "->", "::", "Exact\\b", "\\bimport (?!java\\.util\\.(ArrayList|NoSuchElementException);)",
        "static \\{", "System\\.(?!arraycopy)", "\\bwhile\\b", "\"\\s*\\+", "\\+\\s*\"",
        "[^\\x00-\\x7f]"};

    public static void main(String[] args) throws IOException {
        methods();
        otherMembers();
        source();
        Check.end("FaceTest");
    }

    private static String names(Class<?>[] types, String between) {
        return Arrays.stream(types).map(Class::getSimpleName).collect(Collectors.joining(between));
    }

    private static void methods() {
        Set<String> found = new TreeSet<>();
        Set<String> privates = new TreeSet<>();
        Set<String> publics = new TreeSet<>();
        for (Method m : RuleClasses.class.getDeclaredMethods()) {
            if (Modifier.isPrivate(m.getModifiers())) {
                privates.add(m.getName());
                continue;
            }
            publics.add(m.getName());
            Check.is(m.getName() + " is public", Modifier.isPublic(m.getModifiers()), true);
            Check.is(m.getName() + " is not static", Modifier.isStatic(m.getModifiers()), false);
            found.add((m.getReturnType().getSimpleName() + " " + m.getName() + "("
                    + names(m.getParameterTypes(), ", ") + ") " + names(m.getExceptionTypes(), " ")).trim());
        }
        Set<String> due = new TreeSet<>(Arrays.asList(FACE));
        Check.is("the face is " + found, found.equals(due), true);
        privates.retainAll(publics);
        Check.is("private methods with public names " + privates, privates.size(), 0);
    }

    private static void otherMembers() {
        Class<?> c = RuleClasses.class;
        Check.is("public", Modifier.isPublic(c.getModifiers()), true);
        Check.is("final", Modifier.isFinal(c.getModifiers()), true);
        Check.is("constructors", c.getDeclaredConstructors().length, 1);
        for (Constructor<?> k : c.getDeclaredConstructors()) {
            Check.is("the constructor is public", Modifier.isPublic(k.getModifiers()), true);
            Check.is("of an int", names(k.getParameterTypes(), ", ").equals("int"), true);
        }
        for (Field f : c.getDeclaredFields()) {
            Check.is(f.getName() + " is private", Modifier.isPrivate(f.getModifiers()), true);
            boolean state = Modifier.isStatic(f.getModifiers()) && !Modifier.isFinal(f.getModifiers());
            Check.is(f.getName() + " is no static state", state, false);
        }
        for (Class<?> inner : c.getDeclaredClasses()) {
            Check.is(inner.getName() + " is private", Modifier.isPrivate(inner.getModifiers()), true);
            Check.is(inner.getName() + " is static", Modifier.isStatic(inner.getModifiers()), true);
        }
    }

    private static void source() throws IOException {
        String text = Files.readString(Path.of("src/main/java/RuleClasses.java"));
        // What comments and texts say binds nobody.
        String code = text.replaceAll("(?s)/\\*.*?\\*/", "").replaceAll("//[^\n]*", "");
        for (String outside : OUTSIDE_THE_LANGUAGE) {
            Check.is("the source has " + outside,
                    java.util.regex.Pattern.compile(outside).matcher(code).find(), false);
        }
    }
}
