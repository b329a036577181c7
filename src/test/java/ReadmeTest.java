import java.lang.reflect.Method;
import java.net.URL;
import java.net.URLClassLoader;
import java.nio.file.Files;
import java.nio.file.Path;
import javax.tools.ToolProvider;

/** README.md tells how to use the class: its example is compiled and run, and it names every call. It is run where README.md stands. */
public final class ReadmeTest {
    private static final String BEGIN = "```java\n";
    private static final String END = "```";
    private static final String TOLD = "return new long[] {a, b, job, product, limb, kernel.count(0, 0), kernel.count(1, 0), kernel.sizeOf(product)};";
    private static final long[] WANT = {0, 1, 0, 2, 30, 2, 0, LimbKernel.NONE};

    public static void main(String[] args) throws Exception {
        Due due = new Due();
        String readme = Files.readString(Path.of("README.md"));
        for (Method method : LimbKernel.class.getDeclaredMethods()) {
            if (java.lang.reflect.Modifier.isPublic(method.getModifiers())) {
                due.is("the table of README.md has " + method.getName(), readme.contains("| `" + method.getName() + "("), true);
            }
        }
        due.is("README.md says how to run the tests", readme.contains(".ci/run"), true);
        long[] got = answersOf(example(readme));
        due.is("how many answers", got.length, WANT.length);
        for (int i = 0; i < WANT.length && i < got.length; i++) {
            due.is("answer " + i + " of the example in README.md", got[i], WANT[i]);
        }
        due.end();
    }

    private static String example(String readme) {
        int begin = readme.indexOf(BEGIN) + BEGIN.length();
        return readme.substring(begin, readme.indexOf(END, begin));
    }

    private static long[] answersOf(String example) throws Exception {
        Path folder = Files.createTempDirectory("readme");
        Path source = folder.resolve("ReadmeExample.java");
        Path compiled = folder.resolve("ReadmeExample.class");
        try {
            Files.writeString(source, "public final class ReadmeExample { public static long[] answers() {\n" + example + TOLD + "\n} }\n");
            String classes = System.getProperty("java.class.path");
            if (ToolProvider.getSystemJavaCompiler().run(null, null, null, "-cp", classes, "-d", folder.toString(), source.toString()) != 0) {
                return new long[0];
            }
            try (URLClassLoader loader = new URLClassLoader(new URL[] {folder.toUri().toURL()})) {
                return (long[]) loader.loadClass("ReadmeExample").getMethod("answers").invoke(null);
            }
        } finally {
            Files.deleteIfExists(compiled);
            Files.deleteIfExists(source);
            Files.deleteIfExists(folder);
        }
    }
}
