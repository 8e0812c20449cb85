import java.io.IOException;
import java.lang.reflect.Constructor;
import java.lang.reflect.Executable;
import java.lang.reflect.Field;
import java.lang.reflect.Method;
import java.lang.reflect.Modifier;
import java.nio.file.Files;
import java.nio.file.Path;
import java.util.Arrays;
import java.util.List;
import java.util.Set;
import java.util.TreeSet;
import java.util.regex.Matcher;
import java.util.regex.Pattern;
import java.util.stream.Collectors;

/** The class has the document's face and nothing more, and its text keeps to LANGUAGE.md as far as words tell. */
public final class FaceTest {
    private static final Checker CHECK = new Checker();
    private static final Path SOURCE = Path.of("src/main/java/LineStore.java");
    private static final String[] FACE = {
        "int feed(int,int,int,int,int)",
        "boolean end(int)",
        "void ends(int,int,int,int) IndexOutOfBoundsException IllegalArgumentException",
        "void alone(int,int,int) IndexOutOfBoundsException IllegalArgumentException",
        "boolean holds(int,boolean) IndexOutOfBoundsException",
        "int draft(int,boolean,int) IndexOutOfBoundsException",
        "int put(int,int,int) IndexOutOfBoundsException IllegalArgumentException UnsupportedOperationException",
        "int strike(int,int) IndexOutOfBoundsException",
        "boolean one(int,int) IndexOutOfBoundsException",
        "boolean part()",
        "int as(int) IndexOutOfBoundsException",
        "int look(int,int) IndexOutOfBoundsException NoSuchElementException",
        "int ended(int,int,int) IndexOutOfBoundsException NoSuchElementException",
        "int question() IllegalArgumentException",
        "int fault()",
        "int answers(int)",
        "int answer(int,int,int)",
        "int ways(int,int,int,int) IndexOutOfBoundsException",
        "int degree(int,int,int,int) IndexOutOfBoundsException",
        "int count(int)",
    };
    /** Rules 2, 3, 4, 6 and 13: what the text may not hold. */
    private static final String[] FORBIDDEN = {"->", "::", "\\bfinally\\b", "\\bsynchronized\\b", "\\bassert\\b",
        "\\bcatch\\b", "\\bThrowable\\b", "\\bError\\b", "\\w+Exact\\b", "\\bSystem\\.(?!arraycopy)", "\\bRandom\\b",
        "\\bThread\\b", "\\bString\\.format\\b", "\\bpackage\\b", "\\bvar\\b", "\\bhashCode\\b", "\\btoString\\b",
        "\\bprotected\\b", "static\\s*\\{", "\\[\\]\\s*\\[\\]\\s*\\[\\]"};

    /** Rule 4: what the text takes from the library, constants too. */
    private static final Set<String> TAKEN = Set.of("Math.min", "Math.max", "Integer.bitCount", "Long.bitCount",
        "System.arraycopy", "list.add", "list.get", "list.size");
    private static final Pattern USE = Pattern.compile("\\b(?:[A-Z]\\w*|list)\\.\\w+");

    /** A head with parameters, and all up to the brace below its begin. */
    private static final Pattern METHOD =
            Pattern.compile("(?ms)^( {4}| {8})([a-zA-Z][^;={}]*\\([^;={}]*)\\{\n(.*?)^\\1\\}$");

    private FaceTest() {
    }

    public static void main(String[] args) throws IOException {
        face();
        nothingElse();
        sizes();
        text();
        CHECK.finish();
    }

    private static void face() {
        CHECK.topic("the face");
        Set<String> methods = new TreeSet<>();
        for (Method method : LineStore.class.getDeclaredMethods()) {
            if (Modifier.isPublic(method.getModifiers())) {
                methods.add(signature(method));
                CHECK.same(method.getName() + " is static", Modifier.isStatic(method.getModifiers()), false);
            }
        }
        CHECK.same("public methods", methods, new TreeSet<>(Arrays.asList(FACE)));
        CHECK.same("constructors", Arrays.stream(LineStore.class.getDeclaredConstructors())
                .map(Constructor::toString).collect(Collectors.toList()), List.of("public LineStore()"));
        CHECK.same("constants", Arrays.stream(LineStore.class.getFields()).map(Field::toString)
                .collect(Collectors.toList()), List.of("public static final int LineStore.NONE"));
        CHECK.same("modifiers of the class", Modifier.toString(LineStore.class.getModifiers()), "public final");
    }

    private static String signature(Method method) {
        StringBuilder text = new StringBuilder(method.getReturnType().getSimpleName());
        text.append(' ').append(method.getName()).append(Arrays.stream(method.getParameterTypes())
                .map(Class::getSimpleName).collect(Collectors.joining(",", "(", ")")));
        for (Class<?> thrown : method.getExceptionTypes()) {
            text.append(' ').append(thrown.getSimpleName());
        }
        return text.toString();
    }

    private static void nothingElse() {
        CHECK.topic("rules 1 and 5");
        Set<String> names = Arrays.stream(FACE).map(f -> f.replaceAll("\\w+ (\\w+)\\(.*", "$1"))
                .collect(Collectors.toSet());
        for (Method method : LineStore.class.getDeclaredMethods()) {
            boolean isPrivate = Modifier.isPrivate(method.getModifiers());
            CHECK.same(method + " is of the face or private", isPrivate != names.contains(method.getName()), true);
        }
        for (Field field : LineStore.class.getDeclaredFields()) {
            boolean isPrivate = Modifier.isPrivate(field.getModifiers());
            CHECK.same(field + " is NONE or private", isPrivate != field.getName().equals("NONE"), true);
        }
        for (Class<?> inside : LineStore.class.getDeclaredClasses()) {
            int modifiers = inside.getModifiers();
            CHECK.same(inside + " is static", Modifier.isStatic(modifiers), true);
            CHECK.same(inside + " is open", Modifier.isPublic(modifiers) || Modifier.isProtected(modifiers), false);
            for (Method method : inside.getDeclaredMethods()) {
                CHECK.same(method + " bears a name of the face", names.contains(method.getName()), false);
            }
            for (Field field : inside.getDeclaredFields()) {
                boolean loose = Modifier.isStatic(field.getModifiers()) && !Modifier.isFinal(field.getModifiers());
                CHECK.same(field + " is static and not final", loose, false);
            }
        }
    }

    private static void sizes() {
        CHECK.topic("rule 11");
        CHECK.same("too many classes", LineStore.class.getDeclaredClasses().length > 11, false);
        for (Class<?> inside : LineStore.class.getDeclaredClasses()) {
            for (Executable method : inside.getDeclaredMethods()) {
                CHECK.same(method + " takes too much", method.getParameterCount() > 7, false);
            }
            long fields = Arrays.stream(inside.getDeclaredFields())
                    .filter(f -> !Modifier.isStatic(f.getModifiers())).count();
            CHECK.same(inside + " has too many fields", fields > 20, false);
        }
    }

    private static void text() throws IOException {
        CHECK.topic("the text");
        String text = Files.readString(SOURCE);
        String code = text.replaceAll("(?s)/\\*.*?\\*/", "").replaceAll("//.*", "");
        for (String forbidden : FORBIDDEN) {
            CHECK.same("'" + forbidden + "' stands in it", Pattern.compile(forbidden).matcher(code).find(), false);
        }
        Set<String> imports = code.lines().filter(l -> l.startsWith("import ")).collect(Collectors.toSet());
        CHECK.same("imports", imports, Set.of("import java.util.ArrayList;", "import java.util.NoSuchElementException;"));
        CHECK.same("a sign above 127", text.chars().anyMatch(c -> c > 127), false);
        Matcher uses = USE.matcher(code);
        while (uses.find()) {
            CHECK.same(uses.group() + " is of rule 4", TAKEN.contains(uses.group()), true);
        }
        Matcher methods = METHOD.matcher(code);
        while (methods.find()) {
            CHECK.same("longer than sixty lines: " + methods.group(2), methods.group(3).lines().count() > 60, false);
        }
    }
}
