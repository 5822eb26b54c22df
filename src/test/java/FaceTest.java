import java.io.IOException;
import java.lang.reflect.Constructor;
import java.lang.reflect.Field;
import java.lang.reflect.Method;
import java.lang.reflect.Modifier;
import java.nio.charset.StandardCharsets;
import java.nio.file.Files;
import java.nio.file.Path;
import java.util.ArrayList;
import java.util.Collections;
import java.util.List;
import java.util.regex.Pattern;

/** The public face as the document has it, and what can be told of LANGUAGE.md from the class and its source. */
public final class FaceTest {
    private static final String[] FACE = {
        "int opening(int,int) IndexOutOfBoundsException,IllegalArgumentException",
        "int set(int,int) IndexOutOfBoundsException,IllegalArgumentException",
        "int wind(int,int) IndexOutOfBoundsException,IllegalArgumentException,IllegalStateException",
        "int fault(int,boolean) IndexOutOfBoundsException",
        "int loss(int,int) IndexOutOfBoundsException,IllegalArgumentException",
        "int service(int) IndexOutOfBoundsException,IllegalStateException",
        "int lock() IllegalStateException",
        "int open() IllegalStateException",
        "int drill() IllegalStateException",
        "int pass(int) IllegalArgumentException,IllegalStateException",
        "int append(int) IllegalArgumentException,IllegalStateException",
        "int clearBuffer() ",
        "int firstError() ",
        "int windAll() IllegalArgumentException,IllegalStateException",
        "int undo() IllegalStateException",
        "int movement(int,int) IndexOutOfBoundsException,IllegalArgumentException",
        "int day(int) IndexOutOfBoundsException",
        "int count(int) IllegalArgumentException",
        "int setting(int) IndexOutOfBoundsException",
        "int opensIn() ",
        "int lateness() ",
        "int keyMovement() ",
        "int rightWinding(int) IndexOutOfBoundsException",
        "double punctuality() ",
        "long digest() "};

    // What stands in no program that keeps to rules 2, 4, 6 and 13.
    private static final String[] RULED_OUT = {"\\bimport\\b", "^package\\b", "\\bDouble\\b", "\\bSystem\\.(?!arraycopy)", "::",
        "^(?!\\s*(case|default)\\b).*->", "\\bfinally\\b", "\\bassert\\b", "\\bsynchronized\\b", "\\bThread\\b", "\\bRandom\\b", "[a-z]Exact\\("};

    public static void main(String[] args) throws IOException {
        classIsAsItShould();
        methodsAreAsTheyShould();
        fieldsAreAsTheyShould();
        sourceIsAsItShould();
        Checks.end();
    }

    private static void expect(String what, boolean right) {
        Checks.due(what, right ? 1 : 0, 1);
    }

    private static void classIsAsItShould() {
        Class<?> c = VaultMovements.class;
        expect("public and final", c.getModifiers() == (Modifier.PUBLIC | Modifier.FINAL));
        Constructor<?>[] constructors = c.getDeclaredConstructors();
        expect("one public constructor", constructors.length == 1 && Modifier.isPublic(constructors[0].getModifiers())
            && constructors[0].getParameterCount() == 0);
        for (Class<?> inner : c.getDeclaredClasses()) {
            int modifiers = inner.getModifiers();
            expect(inner + " is static, not public", Modifier.isStatic(modifiers) && !Modifier.isPublic(modifiers)
                && !Modifier.isProtected(modifiers));
        }
    }

    private static void methodsAreAsTheyShould() {
        List<String> face = new ArrayList<>();
        List<String> publicNames = new ArrayList<>();
        List<String> privateNames = new ArrayList<>();
        for (Method m : VaultMovements.class.getDeclaredMethods()) {
            if (m.isSynthetic()) {
                continue;
            }
            if (Modifier.isPublic(m.getModifiers())) {
                face.add(textOf(m));
                publicNames.add(m.getName());
            } else {
                expect(m + " is private", Modifier.isPrivate(m.getModifiers()));
                privateNames.add(m.getName());
            }
        }
        List<String> due = new ArrayList<>(List.of(FACE));
        Collections.sort(due);
        Collections.sort(face);
        expect("the public methods are " + face, face.equals(due));
        expect("no private method bears the name of a public one", Collections.disjoint(publicNames, privateNames));
    }

    private static String textOf(Method m) {
        List<String> arguments = new ArrayList<>();
        for (Class<?> type : m.getParameterTypes()) {
            arguments.add(type.getSimpleName());
        }
        List<String> thrown = new ArrayList<>();
        for (Class<?> type : m.getExceptionTypes()) {
            thrown.add(type.getSimpleName());
        }
        return m.getReturnType().getSimpleName() + " " + m.getName() + "(" + String.join(",", arguments) + ") "
            + String.join(",", thrown);
    }

    private static void fieldsAreAsTheyShould() {
        for (Field f : VaultMovements.class.getDeclaredFields()) {
            int modifiers = f.getModifiers();
            if (Modifier.isStatic(modifiers)) {
                expect(f + " is final", Modifier.isFinal(modifiers));
            }
            boolean isConstant = f.getName().equals("NONE") && f.getType() == int.class && Modifier.isPublic(modifiers);
            expect(f + " is private, or NONE", isConstant || Modifier.isPrivate(modifiers));
        }
    }

    private static void sourceIsAsItShould() throws IOException {
        String source = Files.readString(Path.of("src/main/java/VaultMovements.java"), StandardCharsets.US_ASCII);
        for (String pattern : RULED_OUT) {
            expect("the source is without " + pattern, !Pattern.compile(pattern, Pattern.MULTILINE).matcher(source).find());
        }
    }
}
