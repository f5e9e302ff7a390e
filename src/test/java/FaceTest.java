import java.io.IOException;
import java.lang.reflect.Constructor;
import java.lang.reflect.Field;
import java.lang.reflect.Member;
import java.lang.reflect.Method;
import java.lang.reflect.Modifier;
import java.nio.file.Files;
import java.nio.file.Path;
import java.util.Arrays;
import java.util.Set;
import java.util.TreeSet;
import java.util.regex.Matcher;
import java.util.regex.Pattern;

/** The public face of the document, and the rules of LANGUAGE.md that can be looked up in the class and its text. */
final class FaceTest {
    private static final String[] FACE = {
        "int say(int) throws IllegalArgumentException, IllegalStateException",
        "int empty()",
        "int words()",
        "int wordAt(int) throws IndexOutOfBoundsException",
        "int keep() throws IllegalStateException",
        "int recall(int) throws IndexOutOfBoundsException",
        "int letter(int, int) throws IllegalArgumentException, IndexOutOfBoundsException",
        "int reason(int, int) throws IndexOutOfBoundsException, IllegalArgumentException",
        "int firstFit(int, int) throws IndexOutOfBoundsException, IllegalArgumentException",
        "int define(int, int) throws IndexOutOfBoundsException, IllegalArgumentException, IllegalStateException",
        "int drop(int, int) throws IndexOutOfBoundsException",
        "int entries(int) throws IndexOutOfBoundsException",
        "int entry(int, int, int) throws IndexOutOfBoundsException",
        "int find(int, int) throws IndexOutOfBoundsException, IllegalArgumentException",
        "int setPrice(int) throws IllegalArgumentException",
        "int encode(int) throws IndexOutOfBoundsException",
        "int groups()",
        "int group(int) throws IndexOutOfBoundsException",
        "int garble(int, int, int) throws IndexOutOfBoundsException, IllegalArgumentException, IllegalStateException",
        "int swap(int, int) throws IndexOutOfBoundsException, IllegalStateException",
        "int decode(int) throws IndexOutOfBoundsException",
        "int how(int) throws IndexOutOfBoundsException",
        "int cost()",
        "int time()",
        "double share(int) throws IndexOutOfBoundsException",
        "int propose(int) throws IndexOutOfBoundsException",
        "int learn(int, int) throws IndexOutOfBoundsException, IllegalArgumentException",
        "long digest()",
    };

    /** What LANGUAGE.md forbids and a look at the text can find, comments and texts left aside. */
    private static final String[] FORBIDDEN = {
        "::", "\\bfinally\\b", "\\bsynchronized\\b", "\\bassert\\b", "\\bpackage\\b", "\\bprotected\\b",
        "\\bnative\\b", "\\bboolean equals\\(", "\\bint hashCode\\(", "\\bString toString\\(", "Exact\\(",
        "\\bSystem\\.(?!arraycopy)", "\\bThread\\b", "\\bRandom\\b", "\\bObject\\b", "\\bextends \\w*Exception\\b",
        "\\bcatch \\((ArrayIndex|NullPointer|ClassCast|NegativeArray|ArrayStore|Exception|Throwable|Error)",
    };

    private static final Set<String> LIBRARY = Set.of("java.util.Arrays", "java.util.ArrayList", "java.util.List",
            "java.util.Iterator", "java.util.NoSuchElementException");

    public static void main(String[] args) throws IOException {
        face();
        otherMembers(WireBook.class);
        for (Class<?> inside : WireBook.class.getDeclaredClasses()) {
            inside(inside);
        }
        text(Files.readString(Path.of("src/main/java/WireBook.java")));
        Check.end();
    }

    private static void face() {
        Set<String> got = new TreeSet<>();
        for (Method method : WireBook.class.getDeclaredMethods()) {
            if (Modifier.isPublic(method.getModifiers())) {
                got.add(told(method));
                Check.holds(method + " is no static one", !Modifier.isStatic(method.getModifiers()));
            }
        }
        Set<String> due = new TreeSet<>(Arrays.asList(FACE));
        Check.holds("the face is " + got + ", due is " + due, got.equals(due));
        Check.holds("public and final", Modifier.isPublic(WireBook.class.getModifiers())
                && Modifier.isFinal(WireBook.class.getModifiers()));
        Constructor<?>[] constructors = WireBook.class.getDeclaredConstructors();
        Check.holds("one public constructor without parameters", constructors.length == 1
                && Modifier.isPublic(constructors[0].getModifiers()) && constructors[0].getParameterCount() == 0);
    }

    private static String told(Method method) {
        StringBuilder told = new StringBuilder();
        told.append(method.getReturnType().getName()).append(' ').append(method.getName()).append('(');
        told.append(names(method.getParameterTypes())).append(')');
        if (method.getExceptionTypes().length > 0) {
            told.append(" throws ").append(names(method.getExceptionTypes()));
        }
        return told.toString();
    }

    private static String names(Class<?>[] types) {
        return String.join(", ", Arrays.stream(types).map(Class::getSimpleName).toList());
    }

    private static void otherMembers(Class<?> checked) {
        for (Method method : checked.getDeclaredMethods()) {
            boolean shown = Modifier.isPublic(method.getModifiers());
            Check.holds(method + " is neither public nor private",
                    shown || Modifier.isPrivate(method.getModifiers()) || method.isSynthetic());
            Check.holds(method + " bears a name of the face", shown || !isOfFace(method.getName()));
        }
        for (Field field : checked.getDeclaredFields()) {
            Check.holds(field + " is not private", Modifier.isPrivate(field.getModifiers()));
            staticsAreFinal(field);
        }
        Check.holds("some twenty fields", instanceFields(checked) <= 20);
    }

    private static void inside(Class<?> inside) {
        Check.holds(inside + " is neither public nor protected",
                !Modifier.isPublic(inside.getModifiers()) && !Modifier.isProtected(inside.getModifiers()));
        for (Method method : inside.getDeclaredMethods()) {
            Check.holds(method + " bears a name of the face",
                    !Modifier.isPrivate(method.getModifiers()) || !isOfFace(method.getName()));
            Check.holds(method + " has over seven parameters", method.getParameterCount() <= 7);
        }
        for (Field field : inside.getDeclaredFields()) {
            staticsAreFinal(field);
        }
        Check.holds("some twenty fields", instanceFields(inside) <= 20);
    }

    private static void staticsAreFinal(Member field) {
        int modifiers = field.getModifiers();
        Check.holds(field + " is static, not final", !Modifier.isStatic(modifiers) || Modifier.isFinal(modifiers));
    }

    private static long instanceFields(Class<?> checked) {
        return Arrays.stream(checked.getDeclaredFields()).filter(f -> !Modifier.isStatic(f.getModifiers())).count();
    }

    private static boolean isOfFace(String name) {
        return Arrays.stream(FACE).anyMatch(line -> line.contains(" " + name + "("));
    }

    private static void text(String source) {
        String code = source.replaceAll("(?s)/\\*.*?\\*/", "").replaceAll("//[^\n]*", "")
                .replaceAll("\"[^\"\n]*\"", "\"\"");
        for (String forbidden : FORBIDDEN) {
            Matcher found = Pattern.compile(forbidden).matcher(code);
            Check.holds("the program holds " + forbidden, !found.find());
        }
        Matcher arrows = Pattern.compile("(?m)^(?!\\s*(case|default)\\b).*->").matcher(code);
        Check.holds("the program holds a lambda", !arrows.find());
        Matcher imports = Pattern.compile("import ([^;]*);").matcher(code);
        while (imports.find()) {
            Check.holds("import " + imports.group(1), LIBRARY.contains(imports.group(1)));
        }
    }
}
