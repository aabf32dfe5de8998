import java.io.IOException;
import java.lang.reflect.Constructor;
import java.lang.reflect.Field;
import java.lang.reflect.Method;
import java.lang.reflect.Modifier;
import java.nio.file.Files;
import java.nio.file.Path;
import java.util.Arrays;
import java.util.Set;
import java.util.TreeSet;
import java.util.regex.Matcher;
import java.util.regex.Pattern;

/** The public face of the document, and those rules of LANGUAGE.md that can be read off the class or its text. */
public final class FaceTest {
    private static final Path CLASS = Path.of("src/main/java/GritWheels.java");
    private static final Path DOCUMENT = Path.of("../shared/DOC.md");

    private static final String[] FACE = {
        "int setFall(int, int) IndexOutOfBoundsException IllegalArgumentException",
        "int open(int, int, int) IllegalArgumentException IllegalStateException",
        "int hire(int) IllegalArgumentException IllegalStateException",
        "int send(int, int) IndexOutOfBoundsException",
        "int ring(int) IndexOutOfBoundsException IllegalStateException",
        "int smash(int) IndexOutOfBoundsException IllegalStateException",
        "int build(int) IllegalArgumentException IllegalStateException",
        "int load(int, int) IndexOutOfBoundsException IllegalStateException",
        "int ship(int) IndexOutOfBoundsException IllegalStateException",
        "int bed(int, int) IndexOutOfBoundsException",
        "int quarrier(int, int) IndexOutOfBoundsException",
        "int wheel(int, int) IndexOutOfBoundsException",
        "int raft(int, int) IndexOutOfBoundsException",
        "int count(int) IndexOutOfBoundsException",
        "int pass(int) IllegalArgumentException",
        "int foresee(int, int) IllegalArgumentException IndexOutOfBoundsException",
        "int advise(int, int) IndexOutOfBoundsException IllegalArgumentException",
        "double share()",
        "long digest()",
    };

    private static final String[] RULED_OUT = {
        "->", "::", "finally", "synchronized", "assert ", "catch", "import java.util.function", "package ",
        "System.", "Thread", "Random", "float ", "while (true)", "for (;;)", "hashCode", "toString", "equals",
        "Exact", "protected", "getMessage", "throws Exception", "RuntimeException",
    };

    public static void main(String[] args) throws IOException {
        face();
        members();
        nested();
        text();
        linesOfTheDocument();
        sectionsOfTheDocument();
        Due.end();
    }

    private static void face() {
        Set<String> want = new TreeSet<>(Arrays.asList(FACE));
        Set<String> got = new TreeSet<>();
        for (Method method : GritWheels.class.getDeclaredMethods()) {
            if (Modifier.isPublic(method.getModifiers())) {
                Due.holds(method.getName() + " is no static one", !Modifier.isStatic(method.getModifiers()));
                got.add(told(method));
            }
        }
        Due.holds("the public methods are " + want + ", not " + got, want.equals(got));
        Constructor<?>[] constructors = GritWheels.class.getDeclaredConstructors();
        Due.is("constructors", 1, constructors.length);
        Due.is("its parameters", 0, constructors[0].getParameterCount());
        Due.holds("it is public", Modifier.isPublic(constructors[0].getModifiers()));
        Due.is("the class", Modifier.PUBLIC | Modifier.FINAL, GritWheels.class.getModifiers());
    }

    private static String told(Method method) {
        StringBuilder text = new StringBuilder(method.getReturnType() + " " + method.getName() + "(");
        for (Class<?> type : method.getParameterTypes()) {
            text.append(text.charAt(text.length() - 1) == '(' ? "" : ", ").append(type);
        }
        text.append(")");
        for (Class<?> type : method.getExceptionTypes()) {
            text.append(" ").append(type.getSimpleName());
        }
        return text.toString();
    }

    private static void members() {
        Set<String> names = new TreeSet<>();
        for (String line : FACE) {
            names.add(line.substring(line.indexOf(' ') + 1, line.indexOf('(')));
        }
        for (Method method : GritWheels.class.getDeclaredMethods()) {
            if (!Modifier.isPublic(method.getModifiers())) {
                Due.holds(method + " is private", Modifier.isPrivate(method.getModifiers()));
                Due.holds(method + " has a name of its own", !names.contains(method.getName()));
            }
        }
        for (Field field : GritWheels.class.getDeclaredFields()) {
            Due.holds(field + " is private", Modifier.isPrivate(field.getModifiers()));
            Due.holds(field + " is final if it is static",
                !Modifier.isStatic(field.getModifiers()) || Modifier.isFinal(field.getModifiers()));
        }
        for (Class<?> inside : GritWheels.class.getDeclaredClasses()) {
            for (Method method : inside.getDeclaredMethods()) {
                Due.holds(method + " has a name of its own", !names.contains(method.getName()));
            }
        }
    }

    private static void nested() {
        for (Class<?> inside : GritWheels.class.getDeclaredClasses()) {
            Due.holds(inside + " is static", Modifier.isStatic(inside.getModifiers()));
            Due.holds(inside + " is not public", !Modifier.isPublic(inside.getModifiers()));
            for (Field field : inside.getDeclaredFields()) {
                Due.holds(field + " is no static one", !Modifier.isStatic(field.getModifiers()));
            }
        }
        Due.holds("at most twelve classes", GritWheels.class.getDeclaredClasses().length < 12);
    }

    private static void text() throws IOException {
        String text = Files.readString(CLASS);
        for (String word : RULED_OUT) {
            Due.holds("the text is without: " + word, !text.contains(word));
        }
        Due.holds("the text is ASCII", text.chars().allMatch(sign -> sign > 0 && sign < 128));
    }

    /** Each line of the document's face stands in the class, names of parameters too, and in that order. */
    private static void linesOfTheDocument() throws IOException {
        String text = Files.readString(CLASS);
        String document = Files.readString(DOCUMENT);
        int start = document.indexOf("```java");
        Due.holds("the document has a face", start >= 0);
        int found = 0;
        int place = -1;
        for (String line : document.substring(start, document.indexOf("}", start)).split("\n")) {
            String said = line.strip();
            if (said.startsWith("public ")) {
                String wanted = said.replaceFirst(";$", " {");
                int next = text.indexOf(wanted);
                Due.holds("the class has, in its order: " + wanted, next > place);
                place = next;
                found++;
            }
        }
        Due.is("lines of the face, with the class and the constructor", FACE.length + 2, found);
    }

    /** "Ahead of the calls .. the interface says": the comment stands ahead of the first, behind those before. */
    private static void sectionsOfTheDocument() throws IOException {
        String text = Files.readString(CLASS);
        int found = 0;
        int place = text.indexOf("public GritWheels()");
        for (String line : Files.readAllLines(DOCUMENT)) {
            if (line.startsWith("Ahead of the calls ")) {
                String[] parts = line.replaceFirst("\\.$", "").split(" the interface says: ");
                int comment = text.indexOf("// " + parts[1]);
                Due.holds("a comment behind the calls before: " + parts[1], comment > place);
                place = comment;
                for (String call : parts[0].substring("Ahead of the calls ".length()).split(", ")) {
                    int next = placeOfMethod(text, call.replace("`", ""));
                    Due.holds("behind what is ahead of it: " + call, next > place);
                    place = next;
                }
                found++;
            }
        }
        Due.is("sections", 4, found);
    }

    private static int placeOfMethod(String text, String name) {
        Matcher matcher = Pattern.compile("public \\w+ " + name + "\\(").matcher(text);
        return matcher.find() ? matcher.start() : -1;
    }
}
