import java.io.ByteArrayOutputStream;
import java.io.IOException;
import java.io.PrintStream;
import java.lang.reflect.Method;
import java.lang.reflect.Modifier;
import java.net.URL;
import java.net.URLClassLoader;
import java.nio.file.Files;
import java.nio.file.Path;
import java.util.Arrays;
import java.util.stream.Collectors;
import javax.tools.ToolProvider;

/** README.md: its program compiles and prints what it says, and each call of the face has its row. */
public final class ReadmeTest extends Checks {
    private static final String PROGRAM = "ReadmeProgram";

    public static void main(String[] args) throws Exception {
        String readme = Files.readString(Path.of("README.md"));
        due("README.md's program", () -> printed(block(readme, "java")), block(readme, "text"));
        for (Method method : TideTables.class.getDeclaredMethods()) {
            if (Modifier.isPublic(method.getModifiers())) {
                rowOf(readme, method);
            }
        }
        end();
    }

    private static void rowOf(String readme, Method method) {
        String names = Arrays.stream(method.getParameterTypes()).map(type -> "\\w+").collect(Collectors.joining(", "));
        String row = "(?s).*\\| `" + method.getName() + "\\(" + names + "\\)` \\|.*";
        same("README.md has a row for " + method.getName(), readme.matches(row), true);
    }

    /** The lines of the first block of a kind. */
    private static String block(String readme, String kind) {
        String begin = "```" + kind + "\n";
        int from = readme.indexOf(begin) + begin.length();
        return readme.substring(from, readme.indexOf("```", from));
    }

    private static String printed(String statements) throws Exception {
        Path folder = Files.createTempDirectory("readme");
        try {
            compile(folder, statements);
            return run(folder);
        } finally {
            for (String kind : new String[] {".java", ".class"}) {
                Files.deleteIfExists(folder.resolve(PROGRAM + kind));
            }
            Files.delete(folder);
        }
    }

    private static void compile(Path folder, String statements) throws IOException {
        Path source = folder.resolve(PROGRAM + ".java");
        Files.writeString(source, "public final class " + PROGRAM + " {\n"
                + "    public static void main(String[] args) {\n" + statements + "    }\n}\n");
        int code = ToolProvider.getSystemJavaCompiler().run(null, null, null,
                "-cp", System.getProperty("java.class.path"), "-d", folder.toString(), source.toString());
        same("README.md's program compiles", code, 0);
    }

    private static String run(Path folder) throws Exception {
        PrintStream out = System.out;
        ByteArrayOutputStream text = new ByteArrayOutputStream();
        try (URLClassLoader loader = new URLClassLoader(new URL[] {folder.toUri().toURL()})) {
            System.setOut(new PrintStream(text, true));
            loader.loadClass(PROGRAM).getMethod("main", String[].class).invoke(null, (Object) new String[0]);
        } finally {
            System.setOut(out);
        }
        return text.toString().replace("\r\n", "\n");
    }
}
