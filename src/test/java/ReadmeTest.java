import java.io.File;
import java.io.IOException;
import java.lang.reflect.InvocationTargetException;
import java.lang.reflect.Method;
import java.lang.reflect.Modifier;
import java.net.URL;
import java.net.URLClassLoader;
import java.nio.file.Files;
import java.nio.file.Path;
import java.util.ArrayList;
import java.util.List;
import java.util.Set;
import java.util.TreeSet;
import java.util.regex.Matcher;
import java.util.regex.Pattern;
import javax.tools.JavaCompiler;
import javax.tools.ToolProvider;

/**
 * Runs the examples of README.md: each block of Java is a method of its own, and each call with a comment behind it has to
 * answer what the comment begins with: a number, or "throws" and an exception.
 */
public final class ReadmeTest {
    private static final String NAME = "ReadmeExamples";
    private static final Pattern WITH_ANSWER =
        Pattern.compile("\\s*clock\\.(\\w+)\\((.*)\\);\\s*// (-?\\d+(?:\\.\\d+)?|throws \\w+): .+");

    private ReadmeTest() {
    }

    public static void main(String[] args) throws IOException, ReflectiveOperationException {
        Set<String> shown = new TreeSet<>();
        List<String> source = examples(Files.readAllLines(Path.of("README.md")), shown);
        allMethodsAreShown(shown);
        run(source);
        Checks.end();
    }

    /** Public, as the examples are loaded by a loader of their own. */
    public interface Call {
        Object answer();
    }

    /** For the examples: the call on a line of README.md answers this. */
    public static void due(int line, String want, Call call) {
        String got;
        try {
            got = call.answer().toString();
        } catch (RuntimeException e) {
            got = "throws " + e.getClass().getSimpleName();
        }
        Checks.expect("README.md, line " + line + ", says " + want + ": answered " + got, got.equals(want));
    }

    /** A class with a method for each block of Java, its answers as checks. */
    private static List<String> examples(List<String> lines, Set<String> shown) {
        List<String> source = new ArrayList<>();
        source.add("final class " + NAME + " {");
        boolean isInside = false;
        for (int i = 0; i < lines.size(); i++) {
            String line = lines.get(i);
            if (line.startsWith("```")) {
                boolean begins = !isInside && line.equals("```java");
                source.add(begins ? "static void block" + (i + 1) + "() {" : isInside ? "}" : "");
                isInside = begins;
            } else if (isInside) {
                source.add(exampleOf(line, i + 1, shown));
            }
        }
        source.add("}");
        return source;
    }

    private static String exampleOf(String line, int number, Set<String> shown) {
        Matcher m = WITH_ANSWER.matcher(line);
        if (!m.matches()) {
            Checks.expect("README.md, line " + number + ": the comment behind a call begins with its answer",
                !line.matches("\\s*clock\\..*//.*"));
            return line;
        }
        shown.add(m.group(1));
        return "ReadmeTest.due(" + number + ", \"" + m.group(3) + "\", () -> clock." + m.group(1) + "(" + m.group(2) + "));";
    }

    private static void allMethodsAreShown(Set<String> shown) {
        for (Method m : VaultMovements.class.getDeclaredMethods()) {
            if (Modifier.isPublic(m.getModifiers())) {
                Checks.expect("README.md shows " + m.getName() + " with an answer", shown.contains(m.getName()));
            }
        }
    }

    private static void run(List<String> source) throws IOException, ReflectiveOperationException {
        Path directory = Files.createTempDirectory("readme");
        Path file = directory.resolve(NAME + ".java");
        try {
            Files.write(file, source);
            JavaCompiler compiler = ToolProvider.getSystemJavaCompiler();
            boolean isJava = compiler != null && compiler.run(null, null, null, "-cp",
                System.getProperty("java.class.path"), "-d", directory.toString(), file.toString()) == 0;
            Checks.expect("README.md: the examples are Java", isJava);
            if (isJava) {
                runBlocks(directory.toUri().toURL());
            }
        } finally {
            for (File left : directory.toFile().listFiles()) {
                left.delete();
            }
            Files.delete(directory);
        }
    }

    private static void runBlocks(URL directory) throws IOException, ReflectiveOperationException {
        int blocks = 0;
        try (URLClassLoader loader = new URLClassLoader(new URL[] {directory}, ReadmeTest.class.getClassLoader())) {
            for (Method m : loader.loadClass(NAME).getDeclaredMethods()) {
                if (m.getName().startsWith("block")) {
                    blocks++;
                    runBlock(m);
                }
            }
        }
        Checks.expect("README.md has examples", blocks > 0);
    }

    private static void runBlock(Method block) throws IllegalAccessException {
        try {
            block.setAccessible(true);
            block.invoke(null);
        } catch (InvocationTargetException e) {
            Checks.fail("README.md, " + block.getName() + ": was ended by " + e.getCause());
        }
    }
}
