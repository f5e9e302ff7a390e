import java.io.IOException;
import java.lang.reflect.Constructor;
import java.lang.reflect.Method;
import java.lang.reflect.Modifier;
import java.nio.file.Files;
import java.nio.file.Path;
import java.util.Arrays;
import java.util.Set;
import java.util.TreeSet;

/** 'The public face', and in 'Terms' what the interface says ahead of the calls. LanguageTest has LANGUAGE.md. */
final class FaceTest {
    /** Each section of the interface: its name, then its calls in the order of the document. */
    private static final String[][] SECTIONS = {
        {
            "lines",
            "int say(int word) throws IllegalArgumentException, IllegalStateException",
            "int empty()",
            "int words()",
            "int wordAt(int place) throws IndexOutOfBoundsException",
            "int keep() throws IllegalStateException",
            "int recall(int kept) throws IndexOutOfBoundsException",
        },
        {
            "books",
            "int letter(int code, int place) throws IllegalArgumentException, IndexOutOfBoundsException",
            "int reason(int book, int code) throws IndexOutOfBoundsException, IllegalArgumentException",
            "int firstFit(int book, int from) throws IndexOutOfBoundsException, IllegalArgumentException",
            "int define(int book, int code)"
                    + " throws IndexOutOfBoundsException, IllegalArgumentException, IllegalStateException",
            "int drop(int book, int entry) throws IndexOutOfBoundsException",
            "int entries(int book) throws IndexOutOfBoundsException",
            "int entry(int book, int entry, int what) throws IndexOutOfBoundsException",
            "int find(int book, int code) throws IndexOutOfBoundsException, IllegalArgumentException",
        },
        {
            "messages",
            "int setPrice(int price) throws IllegalArgumentException",
            "int encode(int book) throws IndexOutOfBoundsException",
            "int groups()",
            "int group(int group) throws IndexOutOfBoundsException",
            "int garble(int group, int place, int letter)"
                    + " throws IndexOutOfBoundsException, IllegalArgumentException, IllegalStateException",
            "int swap(int group, int place) throws IndexOutOfBoundsException, IllegalStateException",
            "int decode(int book) throws IndexOutOfBoundsException",
            "int how(int group) throws IndexOutOfBoundsException",
            "int cost()",
            "int time()",
            "double share(int book) throws IndexOutOfBoundsException",
        },
        {
            "proposals",
            "int propose(int book) throws IndexOutOfBoundsException",
            "int learn(int book, int most) throws IndexOutOfBoundsException, IllegalArgumentException",
            "long digest()",
        },
    };

    public static void main(String[] args) throws IOException {
        theClass();
        theCalls();
        sections(Files.readString(Path.of("src/main/java/WireBook.java")));
        Check.end();
    }

    /** "public final class WireBook { public WireBook();" */
    private static void theClass() {
        Check.holds("public and final", Modifier.isPublic(WireBook.class.getModifiers())
                && Modifier.isFinal(WireBook.class.getModifiers()));
        Constructor<?>[] constructors = WireBook.class.getDeclaredConstructors();
        Check.holds("one public constructor without parameters that throws nothing", constructors.length == 1
                && Modifier.isPublic(constructors[0].getModifiers()) && constructors[0].getParameterCount() == 0
                && constructors[0].getExceptionTypes().length == 0);
    }

    /** The calls with their types and exceptions: all of the document, and no other one. */
    private static void theCalls() {
        Set<String> got = new TreeSet<>();
        for (Method method : WireBook.class.getDeclaredMethods()) {
            if (Modifier.isPublic(method.getModifiers())) {
                got.add(told(method));
                Check.holds(method + " is no static one", !Modifier.isStatic(method.getModifiers()));
            }
        }
        Set<String> due = new TreeSet<>();
        for (String[] section : SECTIONS) {
            for (int call = 1; call < section.length; call++) {
                due.add(section[call].replaceAll("int \\w+(?=[,)])", "int"));
            }
        }
        Check.same("calls of the document", due.size(), 28);
        Check.holds("the face is " + got + ", due is " + due, got.equals(due));
    }

    private static String told(Method method) {
        StringBuilder told = new StringBuilder();
        told.append(method.getReturnType().getName()).append(' ').append(method.getName()).append('(');
        told.append(names(method.getParameterTypes())).append(')');
        if (method.getExceptionTypes().length > 0) {
            told.append(" throws ").append(names(method.getExceptionTypes()));
        }
        return told.toString();
    }

    private static String names(Class<?>[] types) {
        return String.join(", ", Arrays.stream(types).map(Class::getSimpleName).toList());
    }

    /** "Ahead of the calls `say`, `empty`, .. the interface says: ---- lines.": heads, calls and their parameters. */
    private static void sections(String source) {
        String text = source.replaceAll("\\s+", " ");
        int reached = 0;
        for (String[] section : SECTIONS) {
            reached = next(text, "// ---- " + section[0] + " ", reached);
            for (int call = 1; call < section.length; call++) {
                reached = next(text, " public " + section[call] + " {", reached);
            }
        }
    }

    private static int next(String text, String sought, int from) {
        int found = text.indexOf(sought, from);
        Check.holds("'" + sought + "' stands behind what is ahead of it in the document", found >= 0);
        Check.holds("'" + sought + "' stands once", found < 0 || text.indexOf(sought, found + 1) < 0);
        return Math.max(found, from);
    }
}
