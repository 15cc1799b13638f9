import java.io.IOException;
import java.lang.reflect.Field;
import java.lang.reflect.Method;
import java.lang.reflect.Modifier;
import java.nio.file.Files;
import java.nio.file.Path;
import java.util.stream.Stream;

/** README.md keeps what it says: its program prints what it shows, and nothing of the face is left out. */
public final class ReadmeTest {
    private static final Path README = Path.of("README.md");

    private ReadmeTest() {
    }

    public static void main(String[] args) throws IOException, InterruptedException {
        String page = Files.readString(README);
        Check.that("what the program prints", printed(block(page, "java")), block(page, "text"));
        namesTheFace(page);
        namesTheTests(page);
        Check.that(".ci/run can be run", Files.isExecutable(Path.of(".ci/run")), true);
        Check.done("ReadmeTest");
    }

    private static String block(String page, String language) {
        String mark = "```" + language + "\n";
        int start = page.indexOf(mark) + mark.length();
        return page.indexOf(mark) < 0 ? "" : page.substring(start, page.indexOf("```", start));
    }

    private static String printed(String program) throws IOException, InterruptedException {
        Path folder = Files.createTempDirectory("readme");
        Path file = folder.resolve("Example.java");
        try {
            Files.writeString(file, program);
            Process process = new ProcessBuilder("java", "-cp", System.getProperty("java.class.path"), file.toString())
                .redirectErrorStream(true).start();
            String output = new String(process.getInputStream().readAllBytes());
            return process.waitFor() == 0 ? output.replace("\r\n", "\n") : "failed: " + output;
        } finally {
            Files.deleteIfExists(file);
            Files.delete(folder);
        }
    }

    private static void namesTheFace(String page) {
        for (Method method : CrossingMail.class.getDeclaredMethods()) {
            if (Modifier.isPublic(method.getModifiers())) {
                Check.that("names the method " + method.getName(), page.contains("`" + method.getName() + "`"), true);
            }
        }
        for (Field field : CrossingMail.class.getDeclaredFields()) {
            if (Modifier.isPublic(field.getModifiers())) {
                Check.that("names the constant " + field.getName(), page.contains("`" + field.getName() + "`"), true);
            }
        }
    }

    private static void namesTheTests(String page) throws IOException {
        try (Stream<Path> files = Files.list(Path.of("src/test/java"))) {
            for (Path file : (Iterable<Path>) files.sorted()::iterator) {
                String name = file.getFileName().toString().replace(".java", "");
                Check.that("names " + name, page.contains("`" + name + "`"), true);
            }
        }
    }
}
