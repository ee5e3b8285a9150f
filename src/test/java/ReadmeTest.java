import java.io.StringWriter;
import java.net.URI;
import java.net.URL;
import java.net.URLClassLoader;
import java.nio.file.Files;
import java.nio.file.Path;
import java.nio.file.Paths;
import java.util.ArrayList;
import java.util.Arrays;
import java.util.List;
import java.util.regex.Matcher;
import java.util.regex.Pattern;
import javax.tools.JavaCompiler;
import javax.tools.JavaFileObject;
import javax.tools.SimpleJavaFileObject;
import javax.tools.ToolProvider;

/** README.md's example: its blocks of Java are compiled and run, and each call has the answer that stands behind it. */
public final class ReadmeTest {
    private static final Pattern ANSWERED = Pattern.compile("(table\\..*\\));\\s*// -> (-?\\w+).*");

    public static void main(String[] args) throws Exception {
        List<String> blocks = javaBlocks(Files.readAllLines(Paths.get("README.md")));
        Check.due("blocks of Java in README.md", blocks.size(), 2);
        if (blocks.size() == 2) {
            run(blocks.get(0), blocks.get(1));
        }
        Check.end("ReadmeTest");
    }

    private static List<String> javaBlocks(List<String> lines) {
        List<String> blocks = new ArrayList<>();
        StringBuilder block = null;
        for (String line : lines) {
            if (line.equals("```java")) {
                block = new StringBuilder();
            } else if (line.equals("```") && block != null) {
                blocks.add(block.toString());
                block = null;
            } else if (block != null) {
                block.append(line).append('\n');
            }
        }
        return blocks;
    }

    private static void run(String helper, String example) throws Exception {
        StringBuilder source = new StringBuilder("public final class Example {\n");
        source.append(helper).append("public static void run(java.util.List<String[]> answers) {\n");
        for (String line : example.split("\n")) {
            Matcher answered = ANSWERED.matcher(line);
            source.append(answered.matches() ? noting(answered.group(1), answered.group(2)) : line).append('\n');
        }
        source.append("}\n}\n");
        List<String[]> answers = new ArrayList<>();
        Path folder = Files.createTempDirectory("readme");
        if (compiles(source.toString(), folder)) {
            try (URLClassLoader loader = new URLClassLoader(new URL[] {folder.toUri().toURL()})) {
                loader.loadClass("Example").getMethod("run", List.class).invoke(null, answers);
            }
        }
        Files.deleteIfExists(folder.resolve("Example.class"));
        Files.deleteIfExists(folder);
        Check.due("some twenty calls have an answer: " + answers.size(), answers.size() >= 20, true);
        for (String[] each : answers) {
            Check.due(each[0], each[1], each[2]);
        }
    }

    private static String noting(String call, String answer) {
        return "answers.add(new String[] {\"" + call + "\", \"\" + " + call + ", \"" + answer + "\"});";
    }

    private static boolean compiles(String source, Path folder) {
        JavaCompiler compiler = ToolProvider.getSystemJavaCompiler();
        JavaFileObject file = new SimpleJavaFileObject(URI.create("string:///Example.java"), JavaFileObject.Kind.SOURCE) {
            @Override
            public CharSequence getCharContent(boolean ignored) {
                return source;
            }
        };
        StringWriter complaints = new StringWriter();
        List<String> options = Arrays.asList("-cp", System.getProperty("java.class.path"), "-d", folder.toString());
        boolean well = compiler.getTask(complaints, null, null, options, null, Arrays.asList(file)).call();
        Check.due("README.md's Java compiles " + complaints, well, true);
        return well;
    }
}
