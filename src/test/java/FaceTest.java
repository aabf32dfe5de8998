import java.io.IOException;
import java.lang.reflect.Constructor;
import java.lang.reflect.Field;
import java.lang.reflect.Method;
import java.lang.reflect.Modifier;
import java.nio.file.Files;
import java.nio.file.Path;
import java.util.Arrays;
import java.util.Set;
import java.util.TreeSet;

/** The public face of the document, and those rules of LANGUAGE.md that can be read off the class or its text. */
public final class FaceTest {
    private static final String[] FACE = {
        "int setFall(int, int) IndexOutOfBoundsException IllegalArgumentException",
        "int open(int, int, int) IllegalArgumentException IllegalStateException",
        "int hire(int) IllegalArgumentException IllegalStateException",
        "int send(int, int) IndexOutOfBoundsException",
        "int ring(int) IndexOutOfBoundsException IllegalStateException",
        "int smash(int) IndexOutOfBoundsException IllegalStateException",
        "int build(int) IllegalArgumentException IllegalStateException",
        "int load(int, int) IndexOutOfBoundsException IllegalStateException",
        "int ship(int) IndexOutOfBoundsException IllegalStateException",
        "int bed(int, int) IndexOutOfBoundsException",
        "int quarrier(int, int) IndexOutOfBoundsException",
        "int wheel(int, int) IndexOutOfBoundsException",
        "int raft(int, int) IndexOutOfBoundsException",
        "int count(int) IndexOutOfBoundsException",
        "int pass(int) IllegalArgumentException",
        "int foresee(int, int) IllegalArgumentException IndexOutOfBoundsException",
        "int advise(int, int) IndexOutOfBoundsException IllegalArgumentException",
        "double share()",
        "long digest()",
    };

    private static final String[] RULED_OUT = {
        "->", "::", "finally", "synchronized", "assert ", "catch", "import java.util.function", "package ",
        "System.", "Thread", "Random", "float ", "while (true)", "for (;;)", "hashCode", "toString", "equals",
        "Exact", "protected", "getMessage", "throws Exception", "RuntimeException",
    };

    public static void main(String[] args) throws IOException {
        face();
        members();
        nested();
        text();
        Due.end();
    }

    private static void face() {
        Set<String> want = new TreeSet<>(Arrays.asList(FACE));
        Set<String> got = new TreeSet<>();
        for (Method method : GritWheels.class.getDeclaredMethods()) {
            if (Modifier.isPublic(method.getModifiers())) {
                Due.holds(method.getName() + " is no static one", !Modifier.isStatic(method.getModifiers()));
                got.add(told(method));
            }
        }
        Due.holds("the public methods are " + want + ", not " + got, want.equals(got));
        Constructor<?>[] constructors = GritWheels.class.getDeclaredConstructors();
        Due.is("constructors", 1, constructors.length);
        Due.is("its parameters", 0, constructors[0].getParameterCount());
        Due.holds("it is public", Modifier.isPublic(constructors[0].getModifiers()));
        Due.is("the class", Modifier.PUBLIC | Modifier.FINAL, GritWheels.class.getModifiers());
    }

    private static String told(Method method) {
        StringBuilder text = new StringBuilder(method.getReturnType() + " " + method.getName() + "(");
        for (Class<?> type : method.getParameterTypes()) {
            text.append(text.charAt(text.length() - 1) == '(' ? "" : ", ").append(type);
        }
        text.append(")");
        for (Class<?> type : method.getExceptionTypes()) {
            text.append(" ").append(type.getSimpleName());
        }
        return text.toString();
    }

    private static void members() {
        Set<String> names = new TreeSet<>();
        for (String line : FACE) {
            names.add(line.substring(line.indexOf(' ') + 1, line.indexOf('(')));
        }
        for (Method method : GritWheels.class.getDeclaredMethods()) {
            if (!Modifier.isPublic(method.getModifiers())) {
                Due.holds(method + " is private", Modifier.isPrivate(method.getModifiers()));
                Due.holds(method + " has a name of its own", !names.contains(method.getName()));
            }
        }
        for (Field field : GritWheels.class.getDeclaredFields()) {
            Due.holds(field + " is private", Modifier.isPrivate(field.getModifiers()));
            Due.holds(field + " is final if it is static",
                !Modifier.isStatic(field.getModifiers()) || Modifier.isFinal(field.getModifiers()));
        }
        for (Class<?> inside : GritWheels.class.getDeclaredClasses()) {
            for (Method method : inside.getDeclaredMethods()) {
                Due.holds(method + " has a name of its own", !names.contains(method.getName()));
            }
        }
    }

    private static void nested() {
        for (Class<?> inside : GritWheels.class.getDeclaredClasses()) {
            Due.holds(inside + " is static", Modifier.isStatic(inside.getModifiers()));
            Due.holds(inside + " is not public", !Modifier.isPublic(inside.getModifiers()));
            for (Field field : inside.getDeclaredFields()) {
                Due.holds(field + " is no static one", !Modifier.isStatic(field.getModifiers()));
            }
        }
        Due.holds("at most twelve classes", GritWheels.class.getDeclaredClasses().length < 12);
    }

    private static void text() throws IOException {
        String text = Files.readString(Path.of("src/main/java/GritWheels.java"));
        for (String word : RULED_OUT) {
            Due.holds("the text is without: " + word, !text.contains(word));
        }
        Due.holds("the text is ASCII", text.chars().allMatch(sign -> sign > 0 && sign < 128));
    }
}
