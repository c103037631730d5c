import java.io.IOException;
import java.lang.reflect.Constructor;
import java.lang.reflect.Field;
import java.lang.reflect.Method;
import java.lang.reflect.Modifier;
import java.nio.file.Files;
import java.nio.file.Path;
import java.util.Arrays;
import java.util.List;
import java.util.TreeSet;
import java.util.stream.Collectors;

/** The face is that of the document, nothing else can be seen, and the source keeps off what LANGUAGE.md rules out. */
public final class FaceTest {
    private static final String A = "IllegalArgumentException";
    private static final String S = "IllegalStateException";
    private static final String U = "UnsupportedOperationException";
    private static final List<String> FACE = List.of(
            "int free(int, int, int, int) " + A + " " + S,
            "int line(int, int) " + A + " " + S + " " + U,
            "int circle(int, int, int) " + A + " " + S + " " + U,
            "int middle(int, int) " + A + " " + S + " " + U,
            "int meet(int, int, int) " + A + " " + S + " " + U,
            "int move(int, int, int, int, int) " + A,
            "boolean undo() ",
            "boolean on(int, int) " + A + " " + U,
            "boolean same(int, int) " + A,
            "boolean equal(int, int, int, int) " + A + " " + U,
            "int angle(int, int) " + A + " " + U,
            "int side(int, int, int) " + A + " " + U,
            "int sign(int, boolean, int) " + A + " " + U,
            "int part(int, boolean, int, boolean) " + A,
            "int radicand(int, int, boolean) IndexOutOfBoundsException",
            "int kind(int) ",
            "int look(int) ");
    private static final List<String> RULED_OUT = List.of(
            "->", "::", "try", "finally", "synchronized", "assert", "static {", "Exact(", "Math.", "System.out",
            "java.io", "java.util.Random", "catch", "volatile", "native", "package ");

    private final Check check = new Check("FaceTest");

    public static void main(String[] args) throws IOException {
        FaceTest test = new FaceTest();
        test.methods();
        test.fieldsAndConstructors();
        test.nestedClasses();
        test.source(Files.readString(Path.of(System.getProperty("source", "src/main/java/RootCompass.java"))));
        test.check.end();
    }

    private static String names(Class<?>[] types, String between) {
        return Arrays.stream(types).map(Class::getSimpleName).collect(Collectors.joining(between));
    }

    private void methods() {
        TreeSet<String> found = new TreeSet<>();
        TreeSet<String> open = new TreeSet<>();
        TreeSet<String> hidden = new TreeSet<>();
        for (Method m : RootCompass.class.getDeclaredMethods()) {
            if (Modifier.isPrivate(m.getModifiers())) {
                hidden.add(m.getName());
                continue;
            }
            boolean ofTheFace = Modifier.isPublic(m.getModifiers()) && !Modifier.isStatic(m.getModifiers());
            check.holds(ofTheFace, m + " is of the face");
            open.add(m.getName());
            found.add(m.getReturnType().getSimpleName() + " " + m.getName() + "("
                    + names(m.getParameterTypes(), ", ") + ") " + names(m.getExceptionTypes(), " "));
        }
        check.due(new TreeSet<>(FACE), "the public methods", () -> found);
        hidden.retainAll(open);
        check.due("[]", "private methods with the name of a public one", () -> hidden);
    }

    private void fieldsAndConstructors() {
        int face = RootCompass.class.getModifiers();
        check.holds(Modifier.isPublic(face) && Modifier.isFinal(face), "the class is public and final");
        for (Field f : RootCompass.class.getDeclaredFields()) {
            int modifiers = f.getModifiers();
            boolean ofTheFace = f.getName().equals("NONE");
            check.holds(Modifier.isPublic(modifiers) == ofTheFace, f + " is of the face or not seen");
            check.holds(Modifier.isPrivate(modifiers) != ofTheFace, f + " is of the face or not seen");
            check.holds(!Modifier.isStatic(modifiers) || Modifier.isFinal(modifiers), f + " is no static state");
        }
        Constructor<?>[] constructors = RootCompass.class.getDeclaredConstructors();
        check.due(1, "constructors", () -> constructors.length);
        check.holds(Modifier.isPublic(constructors[0].getModifiers()), "the constructor is public");
        check.due(0, "its parameters", () -> constructors[0].getParameterCount());
    }

    private void nestedClasses() {
        check.holds(RootCompass.class.getDeclaredClasses().length < 12, "there are at most twelve classes");
        sizes(RootCompass.class);
        for (Class<?> inner : RootCompass.class.getDeclaredClasses()) {
            check.holds(Modifier.isStatic(inner.getModifiers()), inner + " is static");
            check.holds(!Modifier.isPublic(inner.getModifiers()), inner + " is not public");
            sizes(inner);
        }
    }

    private void sizes(Class<?> type) {
        for (Method m : type.getDeclaredMethods()) {
            check.holds(m.getParameterCount() <= 7, m + " has at most seven parameters");
        }
        long fields = Arrays.stream(type.getDeclaredFields()).filter(f -> !Modifier.isStatic(f.getModifiers())).count();
        check.holds(fields <= 20, type + " has at most twenty fields beside its constants");
    }

    private void source(String text) {
        String code = text.replaceAll("(?s)/\\*.*?\\*/", "").replaceAll("//[^\n]*", "");
        for (String word : RULED_OUT) {
            check.holds(!code.contains(word), "the source does without " + word);
        }
        check.holds(!code.contains("import "), "the source does without the library");
        check.holds(text.chars().allMatch(c -> c < 128), "the source is plain text");
    }
}
