import java.io.ByteArrayOutputStream;
import java.io.IOException;
import java.io.InputStream;
import java.nio.charset.StandardCharsets;
import java.nio.file.Files;
import java.nio.file.Path;
import java.util.regex.Matcher;
import java.util.regex.Pattern;
import java.util.stream.Stream;
import javax.tools.ToolProvider;

/** The program that README.md shows compiles with the class and prints what README.md says. */
public final class ReadmeTest {
    private static final Path README = Path.of("README.md");

    private ReadmeTest() {
    }

    /** What stands between the first line "```kind" and the next "```". */
    private static String block(String text, String kind) {
        Matcher block = Pattern.compile("(?s)\n```" + kind + "\n(.*?)\n```\n").matcher(text);
        return block.find() ? block.group(1) + "\n" : "";
    }

    private static String outputOf(Path folder, String program) throws IOException, InterruptedException {
        Path java = Path.of(System.getProperty("java.home"), "bin", "java");
        Process process = new ProcessBuilder(java.toString(), "-cp", folder.toString(), program)
                .redirectErrorStream(true).start();
        ByteArrayOutputStream output = new ByteArrayOutputStream();
        try (InputStream stream = process.getInputStream()) {
            stream.transferTo(output);
        }
        Check.due("exit code of " + program, process.waitFor(), 0);
        return output.toString(StandardCharsets.US_ASCII);
    }

    private static void delete(Path folder) throws IOException {
        try (Stream<Path> files = Files.list(folder)) {
            for (Path file : files.toList()) {
                Files.delete(file);
            }
        }
        Files.delete(folder);
    }

    public static void main(String[] args) throws IOException, InterruptedException {
        String readme = Files.readString(README);
        String program = block(readme, "java");
        Matcher name = Pattern.compile("class (\\w+)").matcher(program);
        Check.due("README.md shows a program", name.find() ? 1 : 0, 1);
        Path folder = Files.createTempDirectory("readme");
        Path source = folder.resolve(name.group(1) + ".java");
        Files.writeString(source, program);
        int compiled = ToolProvider.getSystemJavaCompiler().run(null, System.out, System.out, "-d",
                folder.toString(), "src/main/java/GroebnerFan.java", source.toString());
        Check.due("compiling the program of README.md", compiled, 0);
        Check.due("the program of README.md", outputOf(folder, name.group(1)), block(readme, "text"));
        delete(folder);
        Check.finish("ReadmeTest");
    }
}
