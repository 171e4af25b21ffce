import java.io.IOException;
import java.lang.reflect.Field;
import java.lang.reflect.Method;
import java.lang.reflect.Modifier;
import java.nio.file.Files;
import java.nio.file.Path;
import java.util.Arrays;
import java.util.Set;
import java.util.TreeSet;
import java.util.regex.Pattern;

/** The class shows what the document's face shows, and keeps to the rules of LANGUAGE.md that can be read off. */
public final class FaceTests {
    private static final String PLACE = "IndexOutOfBoundsException";
    private static final String ARGUMENT = "IllegalArgumentException";
    private static final String STATE = "IllegalStateException";

    private static final String[] FACE = {
        "int put(int) " + PLACE + " " + ARGUMENT + " " + STATE,
        "int insert(int int) " + PLACE + " " + ARGUMENT + " " + STATE,
        "int takeOut(int int int) " + PLACE + " " + ARGUMENT + " " + STATE,
        "int copy(int int) " + PLACE + " " + STATE,
        "int rotate(int int) " + PLACE + " " + ARGUMENT + " " + STATE,
        "int drop(int) " + PLACE,
        "int sweep()",
        "int set(int int) " + PLACE + " " + ARGUMENT,
        "int append(int) " + ARGUMENT + " " + STATE,
        "int clearBuffer()",
        "int firstError()",
        "int undo() " + STATE,
        "int sign(int int int) " + PLACE + " " + ARGUMENT,
        "int piece(int int int) " + PLACE + " " + ARGUMENT,
        "int slot(int int) " + PLACE + " " + ARGUMENT,
        "int text(int int) " + PLACE + " " + ARGUMENT,
        "int common(int int int) " + PLACE + " " + ARGUMENT,
        "int count(int) " + ARGUMENT,
        "int setting(int) " + PLACE,
        "int ifPut(int int) " + PLACE + " " + ARGUMENT,
        "int ifSet(int int int) " + PLACE + " " + ARGUMENT,
        "int bestDivisor()",
        "double savedShare()",
        "long digest()"};

    private static final String[] LEFT_OUT = {
        "\\bpackage\\b", "\\bimport\\b", "->", "::", "\\bassert\\b", "\\bsynchronized\\b", "\\bfinally\\b", "\\bcatch\\b",
        "\\bprotected\\b", "\\bDouble\\.", "\\bSystem\\.(?!arraycopy)", "Exact\\(", "\\bRandom\\b", "\\bThread\\b",
        "\\bObject\\b", "\\bequals\\(", "hashCode", "toString", "\\bvar\\b", "\\bstatic (?!final|long |int |void |boolean )"};

    private FaceTests() {
    }

    private static String names(Class<?>[] classes) {
        StringBuilder names = new StringBuilder();
        for (Class<?> each : classes) {
            names.append(names.length() == 0 ? "" : " ").append(each.getSimpleName());
        }
        return names.toString();
    }

    private static String described(Method method) {
        return (method.getReturnType() + " " + method.getName() + "(" + names(method.getParameterTypes()) + ") "
                + names(method.getExceptionTypes())).trim();
    }

    private static void methods() {
        Set<String> open = new TreeSet<>();
        Set<String> openNames = new TreeSet<>();
        for (Method method : CutStore.class.getDeclaredMethods()) {
            if (!Modifier.isPrivate(method.getModifiers())) {
                open.add(described(method));
                openNames.add(method.getName());
                Check.same(method + " is public", Modifier.toString(method.getModifiers()).equals("public") ? 1 : 0, 1);
            }
        }
        Check.same("the face is " + open, open.equals(new TreeSet<>(Arrays.asList(FACE))) ? 1 : 0, 1);
        for (Class<?> each : allClasses()) {
            for (Method method : each.getDeclaredMethods()) {
                boolean hides = openNames.contains(method.getName()) && !Modifier.isPublic(method.getModifiers());
                Check.same(method + " bears the name of a public one", hides ? 1 : 0, 0);
            }
        }
    }

    private static Class<?>[] allClasses() {
        Class<?>[] inside = CutStore.class.getDeclaredClasses();
        Class<?>[] all = Arrays.copyOf(inside, inside.length + 1);
        all[inside.length] = CutStore.class;
        return all;
    }

    private static void members() {
        Check.same("public and final", CutStore.class.getModifiers(), Modifier.PUBLIC | Modifier.FINAL);
        Check.same("constructors", CutStore.class.getDeclaredConstructors().length, 1);
        Check.same("the public one", CutStore.class.getConstructors().length, 1);
        for (Field field : CutStore.class.getDeclaredFields()) {
            boolean open = !Modifier.isPrivate(field.getModifiers());
            Check.same(field + " is open", open ? 1 : 0, field.getName().equals("NONE") ? 1 : 0);
        }
        for (Class<?> each : allClasses()) {
            for (Field field : each.getDeclaredFields()) {
                boolean loose = Modifier.isStatic(field.getModifiers()) && !Modifier.isFinal(field.getModifiers());
                Check.same(field + " is static and changes", loose ? 1 : 0, 0);
            }
        }
        for (Class<?> inside : CutStore.class.getDeclaredClasses()) {
            Check.same(inside + " is static", Modifier.isStatic(inside.getModifiers()) ? 1 : 0, 1);
            Check.same(inside + " is open", Modifier.isPublic(inside.getModifiers()) ? 1 : 0, 0);
        }
    }

    private static void words(Path source) throws IOException {
        String code = Files.readString(source).replaceAll("(?s)/\\*.*?\\*/|//[^\n]*", "").replaceAll("\"[^\"\n]*\"", "\"\"");
        for (String word : LEFT_OUT) {
            Check.same("LANGUAGE.md leaves out " + word, Pattern.compile(word).matcher(code).find() ? 1 : 0, 0);
        }
    }

    public static void main(String[] args) throws IOException {
        methods();
        members();
        words(Path.of(args[0]));
        Check.finish("FaceTests");
    }
}
