import java.io.ByteArrayOutputStream;
import java.io.File;
import java.io.PrintStream;
import java.lang.reflect.Method;
import java.lang.reflect.Modifier;
import java.net.URL;
import java.net.URLClassLoader;
import java.nio.charset.StandardCharsets;
import java.nio.file.Files;
import java.nio.file.Path;
import javax.tools.JavaCompiler;
import javax.tools.ToolProvider;

/** What README.md says holds: its example compiles and prints what it says, and no call or test is left out. */
final class ReadmeTest {
    private static final Path BUILT = Path.of("build", "readme");

    public static void main(String[] args) throws Exception {
        Check c = new Check("ReadmeTest");
        String page = Files.readString(Path.of("README.md"));
        String printed = printed(block(page, "java"));
        c.due("the example prints", block(page, "text"), () -> printed);
        for (Method method : Branchyard.class.getDeclaredMethods()) {
            if (Modifier.isPublic(method.getModifiers())) {
                String name = "`" + method.getName() + "`";
                c.due("the page names " + name, true, () -> page.contains(name));
            }
        }
        for (String file : new File("src/test/java").list()) {
            if (file.endsWith("Test.java")) {
                String name = "- `" + file.replace(".java", "`:");
                c.due("the page tells of " + file, true, () -> page.contains(name));
            }
        }
        c.end();
    }

    /** The first block of the language. */
    private static String block(String page, String language) {
        String mark = "```" + language + "\n";
        int from = page.indexOf(mark);
        int to = from < 0 ? -1 : page.indexOf("```", from + mark.length());
        return to < 0 ? "no block of " + language : page.substring(from + mark.length(), to);
    }

    private static String printed(String example) throws Exception {
        Files.createDirectories(BUILT);
        Path source = BUILT.resolve("Example.java");
        Files.writeString(source, example);
        JavaCompiler compiler = ToolProvider.getSystemJavaCompiler();
        int code = compiler.run(null, null, null, "-d", BUILT.toString(), "src/main/java/Branchyard.java",
                source.toString());
        return code == 0 ? outputOf() : "it does not compile";
    }

    private static String outputOf() throws Exception {
        PrintStream before = System.out;
        ByteArrayOutputStream bytes = new ByteArrayOutputStream();
        try (URLClassLoader loader = new URLClassLoader(new URL[] {BUILT.toUri().toURL()})) {
            System.setOut(new PrintStream(bytes, true, StandardCharsets.UTF_8));
            loader.loadClass("Example").getMethod("main", String[].class).invoke(null, (Object) new String[0]);
        } finally {
            System.setOut(before);
        }
        return bytes.toString(StandardCharsets.UTF_8).replace("\r\n", "\n");
    }
}
