import java.io.IOException;
import java.lang.reflect.Executable;
import java.lang.reflect.Field;
import java.lang.reflect.Method;
import java.lang.reflect.Modifier;
import java.nio.file.Files;
import java.nio.file.Path;
import java.util.ArrayList;
import java.util.Arrays;
import java.util.HashSet;
import java.util.List;
import java.util.Set;
import java.util.regex.Matcher;
import java.util.regex.Pattern;

/** The rules of LANGUAGE.md that a program can look at, each by its number. */
public final class LanguageTest {
    private static final Path SOURCE = Path.of("src/main/java/RuleBooks.java");
    private static final Set<Class<?>> NUMBERS = Set.of(
            int.class, long.class, short.class, byte.class, char.class, boolean.class, double.class, float.class);
    private static final Set<Class<?>> CONSTANTS = Set.of(int.class, long.class, boolean.class, char.class, String.class,
            int[].class, long[].class, char[].class, byte[].class);
    private static final Pattern STATIC_LIBRARY = Pattern.compile("System\\.arraycopy|List\\.of"
            + "|Arrays\\.(copyOf|copyOfRange|fill)|(Integer|Long|Math)\\.(?!\\w+Exact\\b)\\w+");
    private static final Set<String> LIBRARY = Set.of("length", "charAt", "isEmpty", "indexOf", "substring",
            "toCharArray", "append", "setCharAt", "setLength", "deleteCharAt", "reverse", "add", "get", "set", "remove",
            "size", "clear", "clone");

    private final Check check = new Check();
    private final Class<?>[] classes = RuleBooks.class.getNestMembers();
    private final String code;

    private LanguageTest() throws IOException {
        String text = Files.readString(SOURCE);
        code = text.replaceAll("(?s)/\\*.*?\\*/", " ").replaceAll("//[^\n]*", " ");
    }

    public static void main(String[] args) throws IOException {
        LanguageTest test = new LanguageTest();
        test.privateNames();
        test.classesInside();
        test.typesOfFields();
        test.library();
        test.staticFields();
        test.words();
        test.sizes();
        test.lengthsOfMethods();
        test.check.end();
    }

    private void mustBe(String rule, boolean so) {
        check.due(rule, so ? 1 : 0, 1);
    }

    /** Rule 1: no private method bears the name of a public one. */
    private void privateNames() {
        Set<String> names = new HashSet<>();
        for (Method method : RuleBooks.class.getDeclaredMethods()) {
            if (Modifier.isPublic(method.getModifiers())) {
                names.add(method.getName());
            }
        }
        for (Class<?> inside : classes) {
            for (Method method : inside.getDeclaredMethods()) {
                boolean isFace = inside == RuleBooks.class && Modifier.isPublic(method.getModifiers());
                mustBe("rule 1: the name of " + method, isFace || !names.contains(method.getName()));
            }
        }
    }

    /** Rule 2: classes inside are static ones with a name, and stand in the class itself. */
    private void classesInside() {
        for (Class<?> inside : classes) {
            if (inside != RuleBooks.class) {
                mustBe("rule 2: a member: " + inside, inside.getDeclaringClass() == RuleBooks.class);
                mustBe("rule 2: static: " + inside, Modifier.isStatic(inside.getModifiers()));
                mustBe("rule 1: visible: " + inside,
                        !Modifier.isPublic(inside.getModifiers()) && !Modifier.isProtected(inside.getModifiers()));
            }
        }
    }

    /** Rule 3: numbers, arrays of them and of own classes, own classes, texts, and ArrayLists. */
    private void typesOfFields() {
        for (Class<?> inside : classes) {
            for (Field field : inside.getDeclaredFields()) {
                mustBe("rule 3: " + field, isAllowed(field.getType()));
            }
        }
    }

    private boolean isAllowed(Class<?> type) {
        if (type.isArray()) {
            Class<?> of = type.getComponentType();
            return of.isArray() ? NUMBERS.contains(of.getComponentType()) : NUMBERS.contains(of) || isOwn(of);
        }
        return NUMBERS.contains(type) || isOwn(type) || type == String.class || type == ArrayList.class
                || type == List.class;
    }

    private boolean isOwn(Class<?> type) {
        return Arrays.asList(classes).contains(type);
    }

    /** Rules 4 and 13: imports, and calls of other classes, are those that are listed. */
    private void library() {
        Matcher imports = Pattern.compile("import ([^;]*);").matcher(code);
        while (imports.find()) {
            mustBe("rule 4: an import of " + imports.group(1),
                    Set.of("java.util.ArrayList", "java.util.List", "java.util.Arrays").contains(imports.group(1)));
        }
        Set<String> own = new HashSet<>();
        Set<String> calls = new HashSet<>(LIBRARY);
        for (Class<?> inside : classes) {
            own.add(inside.getSimpleName());
            Arrays.stream(inside.getDeclaredMethods()).forEach(method -> calls.add(method.getName()));
        }
        Matcher dots = Pattern.compile("\\b(\\w+)\\.(\\w+)(\\()?").matcher(code.replaceAll("import [^;]*;", ""));
        while (dots.find()) {
            boolean isClass = Character.isUpperCase(dots.group(1).charAt(0)) && !own.contains(dots.group(1));
            boolean isListed = isClass ? STATIC_LIBRARY.matcher(dots.group(1) + "." + dots.group(2)).matches()
                    : dots.group(3) == null || calls.contains(dots.group(2));
            mustBe("rule 4: " + dots.group(), isListed);
        }
    }

    /** Rule 5: static fields are final, and numbers or texts. */
    private void staticFields() {
        for (Class<?> inside : classes) {
            for (Field field : inside.getDeclaredFields()) {
                if (Modifier.isStatic(field.getModifiers())) {
                    mustBe("rule 5: " + field, Modifier.isFinal(field.getModifiers()) && CONSTANTS.contains(field.getType()));
                }
            }
        }
        mustBe("rule 5: no static block", !Pattern.compile("\\bstatic\\s*\\{").matcher(code).find());
    }

    /** Rules 2 and 6: words that are left out. */
    private void words() {
        Pattern left = Pattern.compile("\\b(throw|throws|try|catch|finally|synchronized|assert|package"
                + "|equals|hashCode|toString|Object)\\b|->|::|\\(\\s*[A-Z]\\w*\\s*\\)\\s*\\w");
        Matcher matcher = left.matcher(code);
        check.dueText("rule 6: what is left out", matcher.find() ? matcher.group() : "none", "none");
    }

    /** Rule 11: seven parameters, twelve classes, twenty fields. */
    private void sizes() {
        mustBe("rule 11: classes: " + classes.length, classes.length <= 12);
        for (Class<?> inside : classes) {
            List<Executable> all = new ArrayList<>(List.of(inside.getDeclaredMethods()));
            all.addAll(List.of(inside.getDeclaredConstructors()));
            for (Executable method : all) {
                mustBe("rule 11: parameters of " + method, method.getParameterCount() <= 7);
            }
            long fields = Arrays.stream(inside.getDeclaredFields())
                    .filter(field -> !Modifier.isStatic(field.getModifiers())).count();
            mustBe("rule 11: fields of " + inside, fields <= 20);
        }
    }

    /** Rule 11: a method has some sixty lines at the most; it ends with a brace below its first letter. */
    private void lengthsOfMethods() {
        Matcher methods = Pattern.compile("(?m)^( +)[\\w<>\\[\\] ]+\\([^;{]*\\) \\{\n(?s:.*?)^\\1\\}").matcher(code);
        int found = 0;
        while (methods.find()) {
            found++;
            String method = methods.group();
            mustBe("rule 11: lines of " + method.lines().findFirst().orElse(""), method.lines().count() <= 60);
        }
        mustBe("rule 11: methods were found: " + found, found >= 60);
    }
}
