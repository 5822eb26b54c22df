import java.io.IOException;
import java.lang.reflect.Constructor;
import java.lang.reflect.Field;
import java.lang.reflect.Method;
import java.lang.reflect.Modifier;
import java.nio.charset.StandardCharsets;
import java.nio.file.Files;
import java.nio.file.Path;
import java.util.ArrayList;
import java.util.Collections;
import java.util.List;
import java.util.Set;
import java.util.regex.Matcher;
import java.util.regex.Pattern;

/** The public face as the document has it, and what can be told of LANGUAGE.md from the class and its source. */
public final class FaceTest {
    private static final String[] FACE = {
        "int opening(int,int) IndexOutOfBoundsException,IllegalArgumentException",
        "int set(int,int) IndexOutOfBoundsException,IllegalArgumentException",
        "int wind(int,int) IndexOutOfBoundsException,IllegalArgumentException,IllegalStateException",
        "int fault(int,boolean) IndexOutOfBoundsException",
        "int loss(int,int) IndexOutOfBoundsException,IllegalArgumentException",
        "int service(int) IndexOutOfBoundsException,IllegalStateException",
        "int lock() IllegalStateException",
        "int open() IllegalStateException",
        "int drill() IllegalStateException",
        "int pass(int) IllegalArgumentException,IllegalStateException",
        "int append(int) IllegalArgumentException,IllegalStateException",
        "int clearBuffer() ",
        "int firstError() ",
        "int windAll() IllegalArgumentException,IllegalStateException",
        "int undo() IllegalStateException",
        "int movement(int,int) IndexOutOfBoundsException,IllegalArgumentException",
        "int day(int) IndexOutOfBoundsException",
        "int count(int) IllegalArgumentException",
        "int setting(int) IndexOutOfBoundsException",
        "int opensIn() ",
        "int lateness() ",
        "int keyMovement() ",
        "int rightWinding(int) IndexOutOfBoundsException",
        "double punctuality() ",
        "long digest() "};

    // What stands in no program that keeps to rules 2, 4, 6 and 13.
    private static final String[] RULED_OUT = {"\\bimport\\b", "^package\\b", "\\bDouble\\b", "\\bSystem\\.(?!arraycopy)", "::",
        "^(?!\\s*(case|default)\\b).*->", "\\bfinally\\b", "\\bassert\\b", "\\bsynchronized\\b", "\\bThread\\b", "\\bRandom\\b", "[a-z]Exact\\("};

    // Rule 4's library, as far as the class uses it, rule 6's exceptions, and the classes of its own.
    private static final Set<String> NAMES = Set.of("VaultMovements", "Windings", "Math", "System", "IllegalStateException",
        "IllegalArgumentException", "IndexOutOfBoundsException");
    private static final int MOST_PARAMETERS = 7;
    private static final int MOST_FIELDS = 20;
    private static final int MOST_LINES = 60;

    public static void main(String[] args) throws IOException {
        classIsAsItShould();
        methodsAreAsTheyShould();
        fieldsAreAsTheyShould();
        nothingIsTooLarge(VaultMovements.class);
        for (Class<?> inner : VaultMovements.class.getDeclaredClasses()) {
            nothingIsTooLarge(inner);
        }
        sourceIsAsItShould();
        Checks.end();
    }

    private static void classIsAsItShould() {
        Class<?> c = VaultMovements.class;
        Checks.expect("public and final", c.getModifiers() == (Modifier.PUBLIC | Modifier.FINAL));
        Constructor<?>[] constructors = c.getDeclaredConstructors();
        Checks.expect("one public constructor", constructors.length == 1 && Modifier.isPublic(constructors[0].getModifiers())
            && constructors[0].getParameterCount() == 0);
        for (Class<?> inner : c.getDeclaredClasses()) {
            int modifiers = inner.getModifiers();
            Checks.expect(inner + " is static, not public", Modifier.isStatic(modifiers) && !Modifier.isPublic(modifiers)
                && !Modifier.isProtected(modifiers));
        }
    }

    private static void methodsAreAsTheyShould() {
        List<String> face = new ArrayList<>();
        List<String> publicNames = new ArrayList<>();
        List<String> privateNames = new ArrayList<>();
        for (Method m : VaultMovements.class.getDeclaredMethods()) {
            if (m.isSynthetic()) {
                continue;
            }
            if (Modifier.isPublic(m.getModifiers())) {
                face.add(textOf(m));
                publicNames.add(m.getName());
            } else {
                Checks.expect(m + " is private", Modifier.isPrivate(m.getModifiers()));
                privateNames.add(m.getName());
            }
        }
        List<String> due = new ArrayList<>(List.of(FACE));
        Collections.sort(due);
        Collections.sort(face);
        Checks.expect("the public methods are " + face, face.equals(due));
        Checks.expect("no private method bears the name of a public one", Collections.disjoint(publicNames, privateNames));
    }

    private static String textOf(Method m) {
        List<String> arguments = new ArrayList<>();
        for (Class<?> type : m.getParameterTypes()) {
            arguments.add(type.getSimpleName());
        }
        List<String> thrown = new ArrayList<>();
        for (Class<?> type : m.getExceptionTypes()) {
            thrown.add(type.getSimpleName());
        }
        return m.getReturnType().getSimpleName() + " " + m.getName() + "(" + String.join(",", arguments) + ") "
            + String.join(",", thrown);
    }

    private static void fieldsAreAsTheyShould() {
        for (Field f : VaultMovements.class.getDeclaredFields()) {
            int modifiers = f.getModifiers();
            if (Modifier.isStatic(modifiers)) {
                Checks.expect(f + " is final", Modifier.isFinal(modifiers));
            }
            boolean isConstant = f.getName().equals("NONE") && f.getType() == int.class && Modifier.isPublic(modifiers);
            Checks.expect(f + " is private, or NONE", isConstant || Modifier.isPrivate(modifiers));
        }
    }

    /** Rule 11. */
    private static void nothingIsTooLarge(Class<?> c) {
        int fields = 0;
        for (Field f : c.getDeclaredFields()) {
            fields += Modifier.isStatic(f.getModifiers()) ? 0 : 1;
        }
        Checks.expect(c + " has " + fields + " fields, some " + MOST_FIELDS + " at most", fields <= MOST_FIELDS);
        for (Method m : c.getDeclaredMethods()) {
            Checks.expect(m + " takes " + MOST_PARAMETERS + " parameters at most", m.getParameterCount() <= MOST_PARAMETERS);
        }
    }

    private static void sourceIsAsItShould() throws IOException {
        String source = Files.readString(Path.of("src/main/java/VaultMovements.java"), StandardCharsets.US_ASCII);
        for (String pattern : RULED_OUT) {
            Checks.expect("the source is without " + pattern, !Pattern.compile(pattern, Pattern.MULTILINE).matcher(source).find());
        }
        String[] lines = withoutCommentsAndTexts(source).split("\n");
        int longest = 0;
        int length = 0;
        for (String line : lines) {
            for (Matcher name = Pattern.compile("\\b[A-Z]\\w*[a-z]\\w*").matcher(line); name.find();) {
                Checks.expect(name.group() + " is a class that it may name", NAMES.contains(name.group()));
            }
            Checks.expect("made by a field or for a throw: " + line,
                !line.matches(".*\\bnew\\b.*") || line.matches("\\s*(private final .*|throw new \\w+\\(\"\"\\);)"));
            length = line.isBlank() ? 0 : length + 1;
            longest = Math.max(longest, length);
        }
        Checks.expect("no method, as lines between blank ones, has more than " + MOST_LINES, longest <= MOST_LINES);
    }

    private static String withoutCommentsAndTexts(String source) {
        return source.replaceAll("\"[^\"\n]*\"", "\"\"").replaceAll("//[^\n]*", "").replaceAll("(?s)/\\*.*?\\*/", "");
    }
}
