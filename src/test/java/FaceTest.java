import java.io.IOException;
import java.lang.reflect.Constructor;
import java.lang.reflect.Field;
import java.lang.reflect.Member;
import java.lang.reflect.Method;
import java.lang.reflect.Modifier;
import java.nio.file.Files;
import java.nio.file.Path;
import java.util.Arrays;
import java.util.Set;
import java.util.TreeSet;
import java.util.regex.Matcher;
import java.util.regex.Pattern;
import java.util.stream.Collectors;

/** The class has the document's face and no other, and its text keeps to what LANGUAGE.md leaves. */
public final class FaceTest {
    private static final Path PROGRAM = Path.of("src/main/java/Grainledger.java");
    private static final String INDEX = "IndexOutOfBoundsException";
    private static final String RANGE = "IllegalArgumentException";
    private static final String STATE = "IllegalStateException";
    private static final String[] FACE = {
        face("int", "silo", 1, RANGE, STATE),
        face("void", "terms", 3, RANGE),
        face("int", "deliver", 4, RANGE, STATE),
        face("int", "split", 2, INDEX, RANGE, STATE),
        face("int", "sell", 3, INDEX, RANGE, STATE),
        face("int", "pledge", 4, INDEX, RANGE, STATE),
        face("int", "redeem", 1, INDEX, STATE),
        face("int", "takeOut", 1, INDEX, STATE),
        face("int", "reweigh", 2, INDEX, RANGE, STATE),
        face("int", "contract", 7, RANGE, STATE),
        face("int", "pass", 1, RANGE),
        face("int", "receipt", 2, INDEX, RANGE),
        face("int", "receipts", 0),
        face("int", "delivery", 2, INDEX, RANGE),
        face("int", "ofContract", 2, INDEX, RANGE),
        face("int", "ofSilo", 2, INDEX, RANGE),
        face("int", "contentAnew", 1, INDEX),
        face("long", "account", 1, INDEX),
        face("int", "owes", 1, INDEX),
        face("int", "holds", 3, INDEX, RANGE),
        face("int", "ownerOn", 2, INDEX, RANGE),
    };
    private static final String[] LEFT_OUT = {"\\bfinally\\b", "->", "::", "\\bassert\\b", "\\bsynchronized\\b",
        "static\\s*\\{", "Exact\\(", "\\bpackage\\b", "\\bprotected\\b", "\\bThrowable\\b", "\\bThread\\b",
        "\\bvar\\b", "\\bhashCode\\b", "\\btoString\\b", "\"\\s*\\+", "\\+\\s*\"",
        "\\b(NullPointer|ArrayIndexOutOfBounds|ClassCast|NegativeArraySize|ArrayStore)Exception\\b",
        "catch\\s*\\([^)]*\\b(Exception|RuntimeException|ArithmeticException)\\b"};

    private static final Checks c = new Checks();

    public static void main(String[] args) throws IOException {
        methods();
        members();
        text();
        c.end();
    }

    private static String face(String type, String name, int arguments, String... exceptions) {
        return type + " " + name + " " + arguments + " " + Arrays.toString(exceptions);
    }

    private static void methods() {
        Set<String> got = new TreeSet<>();
        Set<String> publicNames = new TreeSet<>();
        for (Method method : Grainledger.class.getDeclaredMethods()) {
            if (Modifier.isPublic(method.getModifiers())) {
                c.due(method.getName() + " takes ints alone",
                        Arrays.stream(method.getParameterTypes()).allMatch(t -> t == int.class) ? 1 : 0, 1);
                String[] exceptions = Arrays.stream(method.getExceptionTypes()).map(Class::getSimpleName)
                        .toArray(String[]::new);
                got.add(face(method.getReturnType().getName(), method.getName(), method.getParameterCount(),
                        exceptions));
                publicNames.add(method.getName());
            }
        }
        c.due("the face", got.toString(), new TreeSet<>(Arrays.asList(FACE)).toString());
        for (Method method : Grainledger.class.getDeclaredMethods()) {
            if (Modifier.isPrivate(method.getModifiers())) {
                c.due(method.getName() + " is a public name", publicNames.contains(method.getName()) ? 1 : 0, 0);
            }
        }
    }

    private static void members() {
        Class<?> program = Grainledger.class;
        c.due("public and final", Modifier.toString(program.getModifiers()), "public final");
        c.due("constructors", Arrays.stream(program.getDeclaredConstructors()).map(Constructor::toString)
                .collect(Collectors.joining(",")), "public Grainledger()");
        for (Method method : program.getDeclaredMethods()) {
            isPublicOrPrivate(method);
        }
        for (Field field : program.getDeclaredFields()) {
            isPublicOrPrivate(field);
            boolean isPublic = Modifier.isPublic(field.getModifiers());
            c.due(field.getName() + " is public", isPublic ? 1 : 0, field.getName().equals("NONE") ? 1 : 0);
            isConstantIfStatic(field);
        }
        for (Class<?> inside : program.getDeclaredClasses()) {
            c.due(inside + " is static", Modifier.isStatic(inside.getModifiers()) ? 1 : 0, 1);
            for (Field field : inside.getDeclaredFields()) {
                isConstantIfStatic(field);
            }
        }
    }

    private static void isPublicOrPrivate(Member member) {
        int modifiers = member.getModifiers();
        c.due(member.getName() + " is public or private",
                Modifier.isPublic(modifiers) || Modifier.isPrivate(modifiers) ? 1 : 0, 1);
    }

    private static void isConstantIfStatic(Field field) {
        int modifiers = field.getModifiers();
        boolean isConstant = Modifier.isFinal(modifiers) && field.getType() == int.class;
        c.due(field.getName() + " is an object's or a constant",
                !Modifier.isStatic(modifiers) || isConstant ? 1 : 0, 1);
    }

    private static void text() throws IOException {
        String text = Files.readString(PROGRAM);
        c.due("signs are 1 to 127", text.chars().allMatch(sign -> sign > 0 && sign < 128) ? 1 : 0, 1);
        String code = text.replaceAll("(?s)/\\*.*?\\*/", "").replaceAll("//[^\n]*", "");
        for (String pattern : LEFT_OUT) {
            Matcher matcher = Pattern.compile(pattern).matcher(code);
            c.due("found: " + pattern, matcher.find() ? 1 : 0, 0);
        }
        Matcher imported = Pattern.compile("(?m)^import .*$").matcher(code);
        while (imported.find()) {
            String library = "import java\\.util\\.(ArrayList|List|Iterator|Arrays|NoSuchElementException);";
            c.due(imported.group() + " is left", imported.group().matches(library) ? 1 : 0, 1);
        }
        Matcher thrown = Pattern.compile("\\bthrow\\b.*").matcher(code);
        while (thrown.find()) {
            String form = "throw new (" + INDEX + "|" + RANGE + "|" + STATE + ")\\(\"[^\"]*\"\\);";
            c.due(thrown.group() + " is of the form", thrown.group().matches(form) ? 1 : 0, 1);
        }
    }
}
