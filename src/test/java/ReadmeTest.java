import java.io.IOException;
import java.lang.reflect.Method;
import java.lang.reflect.Modifier;
import java.net.URL;
import java.net.URLClassLoader;
import java.nio.file.Files;
import java.nio.file.Path;
import java.util.ArrayList;
import java.util.List;
import java.util.regex.Matcher;
import java.util.regex.Pattern;
import javax.tools.ToolProvider;

/** What README.md says of the class holds: its examples answer what stands behind them, and it names every call. */
public final class ReadmeTest {
    private static final Pattern BLOCK = Pattern.compile("(?s)```java\n(.*?)```");
    private static final Pattern LINE = Pattern.compile("(int \\w+ = )?(.+);\\s+// (-?[0-9]+|[A-Z]+)(: .*)?");
    private static final String MAKES = "NoonVows land = new NoonVows();";

    public static void main(String[] args) throws IOException, ReflectiveOperationException {
        String page = Files.readString(Path.of("README.md"));
        namesEveryCall(page);
        List<String> blocks = new ArrayList<>();
        Matcher m = BLOCK.matcher(page);
        while (m.find()) {
            blocks.add(m.group(1));
        }
        Due.holds("README has examples", blocks.size() >= 3);
        Path folder = Files.createTempDirectory("readme");
        try {
            for (int k = 0; k < blocks.size(); k++) {
                exampleHolds(folder, "Example" + k, blocks.get(k).strip().split("\n"));
            }
        } finally {
            remove(folder);
        }
        Due.end();
    }

    private static void namesEveryCall(String page) {
        for (Method call : NoonVows.class.getDeclaredMethods()) {
            if (Modifier.isPublic(call.getModifiers())) {
                int many = call.getParameterCount();
                String arguments = many == 0 ? "" : "\\w+" + ", \\w+".repeat(many - 1);
                boolean named = Pattern.compile("`" + call.getName() + "\\(" + arguments + "\\)`").matcher(page).find();
                Due.holds("README names " + call, named);
            }
        }
    }

    private static void exampleHolds(Path folder, String name, String[] lines) throws IOException, ReflectiveOperationException {
        StringBuilder body = new StringBuilder();
        StringBuilder answers = new StringBuilder();
        for (int k = 0; k < lines.length; k++) {
            Matcher line = LINE.matcher(lines[k]);
            if (line.matches()) {
                body.append("int got").append(k).append(" = ").append(line.group(2)).append(";\n");
                if (line.group(1) != null) {
                    body.append(line.group(1)).append("got").append(k).append(";\n");
                }
                boolean isNumber = line.group(3).matches("-?[0-9]+");
                String want = isNumber ? line.group(3) : "NoonVows." + line.group(3);
                answers.append("{").append(k).append(", got").append(k).append(", ").append(want).append("},");
            } else {
                Due.holds("README has an answer behind " + lines[k], lines[k].equals(MAKES));
                body.append(lines[k]).append('\n');
            }
        }
        for (int[] row : run(folder, name, body + "return new int[][] {" + answers + "};")) {
            Due.is("README: " + lines[row[0]], row[1], row[2]);
        }
    }

    private static int[][] run(Path folder, String name, String body) throws IOException, ReflectiveOperationException {
        Path file = folder.resolve(name + ".java");
        Files.writeString(file, "public class " + name + " { public static int[][] rows() {\n" + body + "\n} }\n");
        String classes = System.getProperty("java.class.path");
        int failed = ToolProvider.getSystemJavaCompiler().run(null, null, null, "-cp", classes, "-d", folder.toString(), file.toString());
        Due.is("README: " + name + " compiles", failed, 0);
        if (failed != 0) {
            return new int[0][];
        }
        try (URLClassLoader loader = new URLClassLoader(new URL[] {folder.toUri().toURL()})) {
            return (int[][]) loader.loadClass(name).getMethod("rows").invoke(null);
        }
    }

    private static void remove(Path folder) throws IOException {
        try (var files = Files.newDirectoryStream(folder)) {
            for (Path file : files) {
                Files.delete(file);
            }
        }
        Files.delete(folder);
    }
}
