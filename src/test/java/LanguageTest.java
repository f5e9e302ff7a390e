import java.io.IOException;
import java.lang.reflect.Constructor;
import java.lang.reflect.Field;
import java.lang.reflect.Method;
import java.lang.reflect.Modifier;
import java.lang.reflect.Parameter;
import java.nio.file.Files;
import java.nio.file.Path;
import java.util.ArrayList;
import java.util.Arrays;
import java.util.List;
import java.util.Set;
import java.util.TreeSet;
import java.util.regex.Matcher;
import java.util.regex.Pattern;

/** The rules of LANGUAGE.md that can be looked up in the class and its text; their numbers stand at the tests. */
final class LanguageTest {
    private static final Path SOURCE = Path.of("src/main/java/WireBook.java");

    /** What a look at the text can find, comments and texts left aside. */
    private static final String[] FORBIDDEN = {
        "::", "\\bfinally\\b", "\\bsynchronized\\b", "\\bassert\\b", "\\bpackage\\b", "\\bprotected\\b",
        "\\bnative\\b", "\\bboolean equals\\(", "\\bint hashCode\\(", "\\bString toString\\(", "Exact\\(",
        "\\bSystem\\.(?!arraycopy)", "\\bThread\\b", "\\bRandom\\b", "\\bObject\\b", "\\bextends \\w*Exception\\b",
        "\\bcatch \\((ArrayIndex|NullPointer|ClassCast|NegativeArray|ArrayStore|Exception|Throwable|Error)",
        "\\bstatic\\s*\\{", "\"\"\\s*\\+", "\\+\\s*\"\"", "\\btry\\s*\\(",
    };

    private static final Set<String> IMPORTS = Set.of("java.util.Arrays", "java.util.ArrayList", "java.util.List",
            "java.util.Iterator", "java.util.NoSuchElementException");

    private static final Set<String> FUNCTIONS = Set.of("System.arraycopy", "Arrays.copyOf", "Arrays.copyOfRange",
            "Arrays.fill", "List.of", "Math.max", "Math.min", "Math.abs", "Math.floorDiv", "Math.floorMod",
            "Integer.compare", "Integer.max", "Integer.min", "Integer.bitCount", "Long.compare", "Long.max",
            "Long.min", "Long.bitCount");

    private static final Set<String> EXCEPTIONS = Set.of("IllegalStateException", "IllegalArgumentException",
            "IndexOutOfBoundsException", "ArithmeticException", "UnsupportedOperationException",
            "NoSuchElementException", "RuntimeException");

    private static final Set<Class<?>> LIBRARY_TYPES = Set.of(String.class, StringBuilder.class, Integer.class,
            ArrayList.class, List.class);

    private static final Set<Class<?>> CONSTANT_TYPES = Set.of(int.class, long.class, boolean.class, char.class,
            String.class, int[].class, long[].class, char[].class, byte[].class);

    public static void main(String[] args) throws IOException {
        String source = Files.readString(SOURCE);
        String code = withoutTexts(source);
        face();
        classesInside();
        for (Class<?> own : ownClasses()) {
            types(own);
            constants(own);
            sizes(own);
        }
        library(source, code);
        exceptions(code);
        forbidden(code);
        lengths(code);
        Check.end();
    }

    private static List<Class<?>> ownClasses() {
        List<Class<?>> own = new ArrayList<>(Arrays.asList(WireBook.class.getDeclaredClasses()));
        own.add(WireBook.class);
        return own;
    }

    private static String withoutTexts(String source) {
        return source.replaceAll("(?s)/\\*.*?\\*/", "").replaceAll("//[^\n]*", "")
                .replaceAll("\"[^\"\n]*\"", "\"\"");
    }

    /** Rule 1: the face and private members; no private method bears the name of a public one. */
    private static void face() {
        Set<String> shown = new TreeSet<>();
        for (Method method : WireBook.class.getDeclaredMethods()) {
            if (Modifier.isPublic(method.getModifiers())) {
                shown.add(method.getName());
            }
        }
        for (Method method : WireBook.class.getDeclaredMethods()) {
            boolean hidden = Modifier.isPrivate(method.getModifiers()) || method.isSynthetic();
            Check.holds(method + " is neither public nor private",
                    hidden || Modifier.isPublic(method.getModifiers()));
            Check.holds(method + " bears a name of the face", !hidden || !shown.contains(method.getName()));
        }
        for (Class<?> inside : WireBook.class.getDeclaredClasses()) {
            for (Method method : inside.getDeclaredMethods()) {
                Check.holds(method + " bears a name of the face",
                        !Modifier.isPrivate(method.getModifiers()) || !shown.contains(method.getName()));
            }
        }
        for (Field field : WireBook.class.getDeclaredFields()) {
            Check.holds(field + " is not private", Modifier.isPrivate(field.getModifiers()));
        }
    }

    /** Rules 1 and 11: the classes inside are private or package-visible, and some twelve at most. */
    private static void classesInside() {
        Class<?>[] inside = WireBook.class.getDeclaredClasses();
        Check.holds("some twelve classes", inside.length + 1 <= 12);
        for (Class<?> own : inside) {
            int modifiers = own.getModifiers();
            Check.holds(own + " is seen from outside",
                    !Modifier.isPublic(modifiers) && !Modifier.isProtected(modifiers));
        }
    }

    /** Rule 3: the types of fields, parameters and answers. */
    private static void types(Class<?> own) {
        for (Field field : own.getDeclaredFields()) {
            Check.holds("type of " + field, isAllowed(field.getType()));
        }
        for (Method method : own.getDeclaredMethods()) {
            Check.holds("type of " + method, isAllowed(method.getReturnType()));
            for (Parameter parameter : method.getParameters()) {
                Check.holds("types of " + method, isAllowed(parameter.getType()));
            }
        }
    }

    private static boolean isAllowed(Class<?> type) {
        Class<?> element = type.isArray() ? type.getComponentType() : type;
        if (element.isArray()) {
            Class<?> number = element.getComponentType();
            return number.isPrimitive() && number != boolean.class;
        }
        return element.isPrimitive() || ownClasses().contains(element)
                || (LIBRARY_TYPES.contains(element) && !type.isArray());
    }

    /** Rule 5: static fields are final, and of the types that constants have. */
    private static void constants(Class<?> own) {
        for (Field field : own.getDeclaredFields()) {
            if (Modifier.isStatic(field.getModifiers())) {
                Check.holds(field + " is static, not final", Modifier.isFinal(field.getModifiers()));
                Check.holds(field + " is no constant", CONSTANT_TYPES.contains(field.getType()));
            }
        }
    }

    /** Rule 11: at most seven parameters, some twenty fields. */
    private static void sizes(Class<?> own) {
        for (Method method : own.getDeclaredMethods()) {
            Check.holds(method + " has over seven parameters", method.getParameterCount() <= 7);
        }
        for (Constructor<?> constructor : own.getDeclaredConstructors()) {
            Check.holds(constructor + " has over seven parameters", constructor.getParameterCount() <= 7);
        }
        long fields = Arrays.stream(own.getDeclaredFields())
                .filter(field -> !Modifier.isStatic(field.getModifiers())).count();
        Check.holds(own + " has " + fields + " fields", fields <= 20);
    }

    /** Rule 4: imports, functions of the library, and the signs of texts. */
    private static void library(String source, String code) {
        Matcher imports = Pattern.compile("import ([^;]*);").matcher(code);
        while (imports.find()) {
            Check.holds("import " + imports.group(1), IMPORTS.contains(imports.group(1)));
        }
        Set<String> own = new TreeSet<>();
        for (Class<?> inside : ownClasses()) {
            own.add(inside.getSimpleName());
        }
        Matcher calls = Pattern.compile("\\b([A-Z]\\w*)\\.(\\w+)\\(").matcher(code);
        while (calls.find()) {
            String call = calls.group(1) + "." + calls.group(2);
            Check.holds(call, own.contains(calls.group(1)) || FUNCTIONS.contains(call));
        }
        for (int at = 0; at < source.length(); at++) {
            if (source.charAt(at) < 1 || source.charAt(at) > 127) {
                Check.fail("sign " + (int) source.charAt(at) + " at " + at);
            }
        }
    }

    /** Rule 6: the form of each throw, and none in a constructor. */
    private static void exceptions(String code) {
        Matcher thrown = Pattern.compile("\\bthrow\\b([^;]*);").matcher(code);
        while (thrown.find()) {
            Matcher form = Pattern.compile(" new (\\w+)\\((\"\")?\\)").matcher(thrown.group(1));
            Check.holds("throw" + thrown.group(1), form.matches() && EXCEPTIONS.contains(form.group(1)));
        }
        for (String name : new String[] {"public WireBook\\(", "(?<!new )\\b[A-Z]\\w*\\([^)]*\\) \\{"}) {
            Matcher constructor = Pattern.compile("(?m)^( +)" + name + "(?s).*?^\\1\\}").matcher(code);
            while (constructor.find()) {
                Check.holds("a throw in " + constructor.group(), !constructor.group().contains("throw "));
            }
        }
    }

    /** Rules 1, 2, 4, 6, 10 and 13: words and forms that stand nowhere. */
    private static void forbidden(String code) {
        for (String form : FORBIDDEN) {
            Matcher found = Pattern.compile(form).matcher(code);
            Check.holds("the program holds " + form, !found.find());
        }
        Matcher arrows = Pattern.compile("(?m)^(?!\\s*(case|default)\\b).*->").matcher(code);
        Check.holds("the program holds a lambda", !arrows.find());
    }

    /** Rule 11: a method has some sixty lines at most; it ends with the brace that stands as far in as it begins. */
    private static void lengths(String code) {
        Matcher methods = Pattern.compile("(?m)^( {4}| {8})(?! )[^\n;=]*\\((?s)[^;{}]*\\{\n.*?^\\1\\}").matcher(code);
        int found = 0;
        while (methods.find()) {
            found++;
            int lines = methods.group().split("\n").length;
            Check.holds(lines + " lines: " + methods.group(), lines <= 60);
        }
        Check.holds("methods were found", found > 28);
    }
}
