import java.io.IOException;
import java.lang.reflect.Field;
import java.lang.reflect.Method;
import java.lang.reflect.Modifier;
import java.nio.file.Files;
import java.nio.file.Path;
import java.util.ArrayList;
import java.util.HashSet;
import java.util.List;
import java.util.Set;
import java.util.regex.Matcher;
import java.util.regex.Pattern;

/** Rules of ../shared/LANGUAGE.md, as far as the class's text and its members show whether they are kept. */
public final class LanguageTest {
    private static final Check CHECK = new Check();
    private static final Path SOURCE = Path.of("src/main/java/OriginRally.java");
    private static final int MOST_LINES = 60, MOST_PARAMETERS = 7, MOST_CLASSES = 12, MOST_FIELDS = 20;

    /** No rule leaves room for these, wherever they stand outside comments and texts. */
    private static final String[] FORBIDDEN = {
        "->", "::", "\\bpackage\\b", "\\bfinally\\b", "\\bsynchronized\\b", "\\bassert\\b", "\\bvolatile\\b",
        "\\bnative\\b", "\\bprotected\\b", "\\bstatic\\s*\\{", "\\w+Exact\\(", "\\bSystem\\.(?!arraycopy)",
        "\\bThread\\b", "\\bObject\\b", "\\bvar\\b", "@(?!interface)",
        "\\b(equals|hashCode|toString|getMessage)\\s*\\(\\s*\\)"};

    private static final Set<String> EXCEPTIONS = Set.of("IllegalStateException", "IllegalArgumentException",
            "IndexOutOfBoundsException", "ArithmeticException", "UnsupportedOperationException",
            "NoSuchElementException", "RuntimeException");
    private static final Set<String> IMPORTS = Set.of("java.util.NoSuchElementException", "java.util.ArrayList",
            "java.util.List", "java.util.Iterator", "java.util.Arrays");
    private static final Set<Class<?>> CONSTANTS = Set.of(int.class, long.class, boolean.class, char.class,
            String.class, int[].class, long[].class, char[].class, byte[].class);

    public static void main(String[] args) throws IOException {
        String text = Files.readString(SOURCE);
        CHECK.yes("signs 1 to 127 alone", text.chars().allMatch(sign -> sign >= 1 && sign <= 127));
        String code = withoutCommentsAndTexts(text);
        nothingForbidden(code);
        importsAndExceptions(code);
        shortMethods(code);
        List<Class<?>> classes = new ArrayList<>(List.of(OriginRally.class));
        classes.addAll(List.of(OriginRally.class.getDeclaredClasses()));
        CHECK.yes("rule 11: some twelve classes", classes.size() <= MOST_CLASSES);
        classes.forEach(LanguageTest::membersOf);
        namesOfPrivateMethods();
        CHECK.end("LanguageTest");
    }

    private static String withoutCommentsAndTexts(String text) {
        String bare = Pattern.compile("/\\*.*?\\*/", Pattern.DOTALL).matcher(text).replaceAll("");
        return bare.replaceAll("//[^\n]*", "").replaceAll("\"[^\"\n]*\"", "\"\"");
    }

    private static void nothingForbidden(String code) {
        for (String pattern : FORBIDDEN) {
            CHECK.yes("no " + pattern, !Pattern.compile(pattern).matcher(code).find());
        }
    }

    private static void importsAndExceptions(String code) {
        for (String name : found(code, "\\bimport\\s+([^;]+);")) {
            CHECK.yes("rule 4: import of " + name, IMPORTS.contains(name));
        }
        for (String name : found(code, "\\bthrow\\s+([^(;]+)")) {
            CHECK.yes("rule 6: throw " + name,
                    name.startsWith("new ") && EXCEPTIONS.contains(name.substring("new ".length()).strip()));
        }
        CHECK.same("rule 6: nothing is caught, so no call is answered by what the machine throws", 0,
                found(code, "\\b(catch|try)\\b").size());
    }

    private static List<String> found(String code, String pattern) {
        List<String> names = new ArrayList<>();
        Matcher matcher = Pattern.compile(pattern).matcher(code);
        while (matcher.find()) {
            names.add(matcher.group(1).strip());
        }
        return names;
    }

    /** A method ends, by the indentation that the file keeps to, with the first brace as far in as its head. */
    private static void shortMethods(String code) {
        Matcher matcher = Pattern.compile("(?m)^( {4}| {8})(?=\\S)(?!private static final class)"
                + "[\\w\\[\\] ]+\\([^;]*?\\{$(?s:.*?)^\\1\\}$").matcher(code);
        int methods = 0;
        while (matcher.find()) {
            methods++;
            String head = matcher.group().strip().split("\n")[0];
            CHECK.yes("rule 11: a short method: " + head, matcher.group().lines().count() <= MOST_LINES);
        }
        CHECK.yes("the methods were found", methods > OriginRally.class.getDeclaredMethods().length);
    }

    private static void membersOf(Class<?> asked) {
        String name = asked.getSimpleName();
        boolean isInside = asked != OriginRally.class;
        int modifiers = asked.getModifiers();
        CHECK.yes("rule 1: " + name + " is static and not seen outside", !isInside || Modifier.isStatic(modifiers)
                && !Modifier.isPublic(modifiers) && !Modifier.isProtected(modifiers));
        int fields = 0;
        for (Field field : asked.getDeclaredFields()) {
            boolean isStatic = Modifier.isStatic(field.getModifiers());
            fields += isStatic ? 0 : 1;
            CHECK.yes("rule 5: " + name + "." + field.getName(), !isStatic
                    || Modifier.isFinal(field.getModifiers()) && CONSTANTS.contains(field.getType()));
        }
        CHECK.yes("rule 11: some twenty fields in " + name, fields <= MOST_FIELDS);
        for (Method method : asked.getDeclaredMethods()) {
            CHECK.yes("rule 11: the parameters of " + method.getName(),
                    method.getParameterCount() <= MOST_PARAMETERS);
        }
    }

    private static void namesOfPrivateMethods() {
        Set<String> names = new HashSet<>();
        for (Method method : OriginRally.class.getDeclaredMethods()) {
            if (Modifier.isPublic(method.getModifiers())) {
                names.add(method.getName());
            }
        }
        for (Method method : OriginRally.class.getDeclaredMethods()) {
            CHECK.yes("rule 1: a private method is named " + method.getName(),
                    Modifier.isPublic(method.getModifiers()) || !names.contains(method.getName()));
        }
    }
}
