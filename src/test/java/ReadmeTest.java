import java.io.ByteArrayOutputStream;
import java.io.IOException;
import java.io.InputStream;
import java.nio.file.Files;
import java.nio.file.Path;

/** The example of README.md: it compiles with the class, and prints what stands below it. */
public final class ReadmeTest {
    private static String printed = "";

    public static void main(String[] args) throws Exception {
        String readme = Files.readString(Path.of("README.md"));
        Path place = Files.createTempDirectory("readme");
        Path source = place.resolve("Example.java");
        Files.writeString(source, block(readme, "java"));
        Check.equal("exit code of javac", 0, run("javac", "-Xlint:all", "-Werror", "-d", place.toString(),
            "src/main/java/PhoneMemory.java", source.toString()));
        Check.equal("exit code of the example", 0, run("java", "-cp", place.toString(), "Example"));
        if (!printed.equals(block(readme, "text"))) {
            Check.fail("the example printed:\n" + printed);
        }
        delete(place);
        Check.end("ReadmeTest");
    }

    private static String block(String readme, String kind) {
        String begin = "```" + kind + "\n";
        int from = readme.indexOf(begin);
        int to = readme.indexOf("```\n", from + begin.length());
        if (from < 0 || to < 0) {
            Check.fail("README.md has no block of " + kind);
            return "";
        }
        return readme.substring(from + begin.length(), to);
    }

    private static int run(String... command) throws IOException, InterruptedException {
        Process process = new ProcessBuilder(command).redirectErrorStream(true).start();
        ByteArrayOutputStream out = new ByteArrayOutputStream();
        try (InputStream in = process.getInputStream()) {
            in.transferTo(out);
        }
        printed = out.toString().replace("\r\n", "\n");
        int code = process.waitFor();
        if (code != 0) {
            System.out.println(printed);
        }
        return code;
    }

    private static void delete(Path place) throws IOException {
        try (var files = Files.list(place)) {
            for (Path file : files.toList()) {
                Files.delete(file);
            }
        }
        Files.delete(place);
    }
}
