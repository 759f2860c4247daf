import java.io.IOException;
import java.nio.file.Files;
import java.nio.file.Path;
import java.util.List;
import javax.tools.ToolProvider;

/** The example of README.md compiles, and prints what stands behind its lines. */
public final class ReadmeTest {
    private static final String PRINTS = "System.out.println(";

    public static void main(String[] args) throws IOException, InterruptedException {
        Check check = new Check();
        List<String> example = example(Files.readString(Path.of("README.md")));
        List<String> due = example.stream().filter(line -> line.startsWith(PRINTS))
            .map(line -> line.substring(line.indexOf("// ") + 3)).toList();
        List<String> printed = run(example);
        check.due("lines printed by the example", printed.size(), due.size());
        for (int k = 0; k < due.size() && k < printed.size(); k++) {
            check.due(due.get(k) + ", but printed " + printed.get(k), printed.get(k).equals(due.get(k)) ? 1 : 0, 1);
        }
        check.finish("ReadmeTest");
    }

    private static List<String> example(String readme) {
        int start = readme.indexOf("```java\n") + 8;
        return readme.substring(start, readme.indexOf("```", start)).lines().toList();
    }

    private static List<String> run(List<String> example) throws IOException, InterruptedException {
        String source = "class Example { public static void main(String[] args) {\n" + String.join("\n", example) + "\n} }\n";
        Path folder = Files.createTempDirectory("readme");
        Path file = Files.writeString(folder.resolve("Example.java"), source);
        Path out = folder.resolve("out.txt");
        String classes = System.getProperty("java.class.path");
        try {
            int compiled = ToolProvider.getSystemJavaCompiler().run(null, null, null, "-cp", classes, "-d", folder.toString(), file.toString());
            if (compiled != 0) return List.of();
            String java = Path.of(System.getProperty("java.home"), "bin", "java").toString();
            String both = classes + System.getProperty("path.separator") + folder;
            new ProcessBuilder(java, "-cp", both, "Example").redirectOutput(out.toFile()).redirectErrorStream(true).start().waitFor();
            return Files.readAllLines(out);
        } finally {
            Files.deleteIfExists(out);
            Files.deleteIfExists(folder.resolve("Example.class"));
            Files.delete(file);
            Files.delete(folder);
        }
    }
}
