import java.lang.reflect.Constructor;
import java.lang.reflect.Field;
import java.lang.reflect.Method;
import java.lang.reflect.Modifier;
import java.nio.file.Files;
import java.nio.file.Path;
import java.util.ArrayList;
import java.util.Arrays;
import java.util.List;
import java.util.Set;
import java.util.TreeSet;

/** The public face is the document's, and what LANGUAGE.md says of members can be seen from outside. */
public final class FaceTest {

    private static final String I = "IndexOutOfBoundsException";
    private static final String A = "IllegalArgumentException";
    private static final String S = "IllegalStateException";

    private static final String[] FACE = {
        "int folder(int, int) " + I + " " + A + " " + S,
        "int nest(int, int, int) " + I + " " + A,
        "int setAge(int, int, int) " + I + " " + A,
        "int setQuota(int, int) " + I + " " + A,
        "int setLinger(int, int) " + A,
        "int rule(int, int, int, boolean, int, int, boolean) " + I + " " + A + " " + S,
        "int unrule(int, int) " + I,
        "int folders(int) " + I,
        "int ofFolder(int, int, int) " + I + " " + A,
        "int send(int, int, int, int, int, int) " + I + " " + A + " " + S,
        "int setClock(int) " + A,
        "boolean mark(int, int, int, boolean) " + I + " " + A,
        "int move(int, int, int) " + I,
        "int empty(int, int) " + I,
        "int messages()",
        "int copy(int, int, int) " + I + " " + A,
        "int at(int, int, int) " + I,
        "int full(int) " + I,
        "int bounces(int) " + I,
        "int stamp()",
        "int since(int, int, int) " + I,
        "int threads(int) " + I,
        "int ofThread(int, int, int) " + I + " " + A,
        "int query(int, int, int) " + A + " " + S,
        "int finds(int, int) " + I,
        "int found(int, int, int) " + I,
        "double meanSize(int) " + I,
        "int wouldLie(int, int, int, int, int) " + I + " " + A,
        "int wouldGet(int, int, int, int, int) " + A,
        "int wouldAge(int, int) " + I + " " + A,
        "int wouldMiss(int, int) " + I,
        "long digest()",
    };

    public static void main(String[] args) throws Exception {
        Due due = new Due();
        due.is(Modifier.PUBLIC | Modifier.FINAL, "the class", () -> DovecoteMail.class.getModifiers());
        due.is(sorted(Arrays.asList(FACE)), "the public methods", () -> publicMethods());
        due.is("[public DovecoteMail()]", "the constructors", () -> constructors());
        due.is("[]", "members neither public nor private", () -> looseMembers());
        due.is("[]", "public names that private methods bear", () -> publicNamesWithin());
        due.is("[]", "static fields that are not final", () -> looseStatics());
        List<String> lines = Files.readAllLines(Path.of("src/main/java/DovecoteMail.java"));
        due.is("[]", "signs that are no plain ones", () -> lines.stream()
                .filter(line -> !line.matches("[\\x20-\\x7e]*")).toList().toString());
        due.is("[]", "words that the language leaves out", () -> lines.stream()
                .filter(line -> line.matches(".*(\\bimport |\\bpackage |->|::|\\bcatch\\b|\\btry\\b|\\bsynchronized\\b"
                        + "|\\bassert\\b|\\bMath\\.\\w+Exact|\\bSystem\\.(?!arraycopy)).*")).toList().toString());
        due.end("FaceTest");
    }

    private static String sorted(List<String> texts) {
        return new TreeSet<>(texts).toString();
    }

    private static String publicMethods() {
        List<String> found = new ArrayList<>();
        for (Method method : DovecoteMail.class.getDeclaredMethods()) {
            if (Modifier.isPublic(method.getModifiers())) {
                found.add(told(method));
            }
        }
        return sorted(found);
    }

    private static String told(Method method) {
        StringBuilder text = new StringBuilder(method.getReturnType().getSimpleName() + " " + method.getName() + "(");
        String gap = "";
        for (Class<?> type : method.getParameterTypes()) {
            text.append(gap).append(type.getSimpleName());
            gap = ", ";
        }
        text.append(")");
        for (Class<?> type : method.getExceptionTypes()) {
            text.append(" ").append(type.getSimpleName());
        }
        return text.toString();
    }

    private static String constructors() {
        return Arrays.toString(DovecoteMail.class.getDeclaredConstructors());
    }

    private static String looseMembers() {
        Set<String> loose = new TreeSet<>();
        for (Method method : DovecoteMail.class.getDeclaredMethods()) {
            if (!method.isSynthetic() && (method.getModifiers() & (Modifier.PUBLIC | Modifier.PRIVATE)) == 0) {
                loose.add(method.getName());
            }
        }
        for (Field field : DovecoteMail.class.getDeclaredFields()) {
            if (!Modifier.isPrivate(field.getModifiers())) {
                loose.add(field.getName());
            }
        }
        for (Class<?> inner : DovecoteMail.class.getDeclaredClasses()) {
            if (!Modifier.isStatic(inner.getModifiers()) || Modifier.isPublic(inner.getModifiers())) {
                loose.add(inner.getSimpleName());
            }
            for (Constructor<?> constructor : inner.getDeclaredConstructors()) {
                if (Modifier.isPublic(constructor.getModifiers())) {
                    loose.add(constructor.toString());
                }
            }
        }
        return loose.toString();
    }

    private static String publicNamesWithin() {
        Set<String> names = new TreeSet<>();
        for (String line : FACE) {
            names.add(line.substring(line.indexOf(' ') + 1, line.indexOf('(')));
        }
        Set<String> taken = new TreeSet<>();
        List<Class<?>> classes = new ArrayList<>(List.of(DovecoteMail.class.getDeclaredClasses()));
        classes.add(DovecoteMail.class);
        for (Class<?> type : classes) {
            for (Method method : type.getDeclaredMethods()) {
                boolean isOfFace = type == DovecoteMail.class && Modifier.isPublic(method.getModifiers());
                if (!isOfFace && names.contains(method.getName())) {
                    taken.add(type.getSimpleName() + "." + method.getName());
                }
            }
        }
        return taken.toString();
    }

    private static String looseStatics() {
        Set<String> loose = new TreeSet<>();
        List<Class<?>> classes = new ArrayList<>(List.of(DovecoteMail.class.getDeclaredClasses()));
        classes.add(DovecoteMail.class);
        for (Class<?> type : classes) {
            for (Field field : type.getDeclaredFields()) {
                boolean isStatic = Modifier.isStatic(field.getModifiers()) && !field.isSynthetic();
                if (isStatic && !Modifier.isFinal(field.getModifiers())) {
                    loose.add(field.toString());
                }
            }
        }
        return loose.toString();
    }
}
