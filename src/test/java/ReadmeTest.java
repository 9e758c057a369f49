import java.io.ByteArrayOutputStream;
import java.io.File;
import java.io.IOException;
import java.io.PrintStream;
import java.net.URL;
import java.net.URLClassLoader;
import java.nio.charset.StandardCharsets;
import java.nio.file.Files;
import java.nio.file.Path;
import java.util.Comparator;
import java.util.List;
import java.util.Set;
import java.util.TreeSet;
import java.util.stream.Stream;
import javax.tools.ToolProvider;

/** README.md: its program prints what it says, all calls of the face stand in it, and it names each test. */
public final class ReadmeTest {
    private static final Check CHECK = new Check();
    private static final Path PLACE = Path.of("README.md");

    public static void main(String[] args) throws IOException, ReflectiveOperationException {
        String readme = Files.readString(PLACE);
        String due = block(readme, "text");
        String got = printed(block(readme, "java"));
        CHECK.due("its program printed\n" + got + "which is what stands there", got.equals(due), true);
        for (String call : new Document().calls()) {
            String name = call.split("[ (]")[1];
            CHECK.due("it tells of " + name, readme.matches("(?s).*`" + name + "[`(].*"), true);
        }
        for (String test : tests()) {
            boolean inARow = test.matches("Term[2-4]BoundsTest|Promise(9To16|17To24)BoundsTest");
            CHECK.due("it tells of " + test, inARow || readme.contains("`" + test + "`"), true);
        }
        CHECK.finish();
    }

    /** What stands in the first block of a kind. */
    private static String block(String readme, String kind) {
        String sign = "```" + kind + "\n";
        int from = readme.indexOf(sign);
        int to = readme.indexOf("```", from + sign.length());
        CHECK.due("it has a block of " + kind, from >= 0 && to >= 0, true);
        return from >= 0 && to >= 0 ? readme.substring(from + sign.length(), to) : "";
    }

    private static Set<String> tests() {
        Set<String> all = new TreeSet<>();
        for (File file : List.of(Path.of("src", "test", "java").toFile().listFiles())) {
            if (file.getName().endsWith("Test.java")) {
                all.add(file.getName().replace(".java", ""));
            }
        }
        return all;
    }

    private static String printed(String program) throws IOException, ReflectiveOperationException {
        Path directory = Files.createTempDirectory("readme");
        try {
            Path source = Files.writeString(directory.resolve("Evening.java"), program);
            int failed = ToolProvider.getSystemJavaCompiler().run(null, null, null, "-proc:none",
                "-cp", System.getProperty("java.class.path"), "-d", directory.toString(), source.toString());
            CHECK.due("its program compiles", failed, 0);
            return failed == 0 ? run(directory) : "";
        } finally {
            try (Stream<Path> files = Files.walk(directory)) {
                files.sorted(Comparator.reverseOrder()).forEach(file -> file.toFile().delete());
            }
        }
    }

    private static String run(Path directory) throws IOException, ReflectiveOperationException {
        ByteArrayOutputStream bytes = new ByteArrayOutputStream();
        PrintStream before = System.out;
        try (URLClassLoader loader = new URLClassLoader(new URL[] {directory.toUri().toURL()})) {
            System.setOut(new PrintStream(bytes, true, StandardCharsets.UTF_8));
            loader.loadClass("Evening").getMethod("main", String[].class).invoke(null, (Object) new String[0]);
        } finally {
            System.setOut(before);
        }
        return bytes.toString(StandardCharsets.UTF_8).replace("\r\n", "\n");
    }
}
