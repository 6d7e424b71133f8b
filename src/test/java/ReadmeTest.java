import java.io.ByteArrayOutputStream;
import java.io.PrintStream;
import java.net.URL;
import java.net.URLClassLoader;
import java.nio.charset.StandardCharsets;
import java.nio.file.Files;
import java.nio.file.Path;
import java.util.ArrayList;
import java.util.List;
import javax.tools.ToolProvider;

/** The Java blocks of README.md, carried out as one program, print what its text blocks say. */
public final class ReadmeTest {
    private static final String BREAK = "----";

    public static void main(String[] args) throws Exception {
        List<String> programs = blocks("```java");
        List<String> outputs = blocks("```text");
        Check.due("README has blocks of Java", true, () -> !programs.isEmpty());
        Check.due("each is followed by what it prints", programs.size(), () -> outputs.size());
        String[] printed = printed(programs).split(BREAK + "\n", -1);
        for (int i = 0; i < outputs.size() && i < programs.size(); i++) {
            int block = i;
            Check.due("block " + i, outputs.get(i), () -> block < printed.length ? printed[block] : "nothing");
        }
        String readme = Files.readString(Path.of("README.md"));
        Check.due("README tells the command of the tests", true, () -> readme.contains("\n    .ci/run\n"));
        Check.due("it is there", true, () -> Files.isExecutable(Path.of(".ci/run")));
        Check.end();
    }

    private static List<String> blocks(String fence) throws Exception {
        List<String> blocks = new ArrayList<>();
        StringBuilder block = null;
        for (String line : Files.readAllLines(Path.of("README.md"))) {
            if (block == null) {
                block = line.equals(fence) ? new StringBuilder() : null;
            } else if (line.equals("```")) {
                blocks.add(block.toString());
                block = null;
            } else {
                block.append(line).append('\n');
            }
        }
        return blocks;
    }

    private static String printed(List<String> programs) throws Exception {
        Path folder = Files.createTempDirectory("readme");
        try {
            StringBuilder source = new StringBuilder("public class Example { public static void main(String[] args) {\n");
            for (String program : programs) {
                source.append(program).append("System.out.print(\"" + BREAK + "\\n\");\n");
            }
            Path file = Files.writeString(folder.resolve("Example.java"), source.append("}}\n"));
            int failed = ToolProvider.getSystemJavaCompiler().run(null, null, null, "-cp",
                    System.getProperty("java.class.path"), "-d", folder.toString(), file.toString());
            return failed == 0 ? printedBy(folder) : "does not compile";
        } finally {
            Files.deleteIfExists(folder.resolve("Example.java"));
            Files.deleteIfExists(folder.resolve("Example.class"));
            Files.deleteIfExists(folder);
        }
    }

    private static String printedBy(Path folder) throws Exception {
        PrintStream before = System.out;
        ByteArrayOutputStream printed = new ByteArrayOutputStream();
        System.setOut(new PrintStream(printed, true, StandardCharsets.UTF_8));
        try (URLClassLoader loader = new URLClassLoader(new URL[] {folder.toUri().toURL()})) {
            loader.loadClass("Example").getMethod("main", String[].class).invoke(null, (Object) new String[0]);
        } finally {
            System.setOut(before);
        }
        return printed.toString(StandardCharsets.UTF_8).replace("\r\n", "\n");
    }
}
