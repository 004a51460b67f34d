import java.io.ByteArrayOutputStream;
import java.io.IOException;
import java.io.PrintStream;
import java.net.URL;
import java.net.URLClassLoader;
import java.nio.file.Files;
import java.nio.file.Path;
import java.util.ArrayList;
import java.util.List;
import javax.tools.ToolProvider;

/** What README.md says: its example prints what it tells there, and its tables have each call with what it throws. */
public final class ReadmeTest {
    public static void main(String[] args) throws Exception {
        Path source = Path.of(System.getProperty("cascade.source", "src/main/java/CascadeHouse.java")).toAbsolutePath();
        Path root = source.getParent().getParent().getParent().getParent();
        List<String> page = Files.readAllLines(root.resolve("README.md"));
        Check.due("what the example prints", run(block(page, "java")), block(page, "text"));
        tables(page);
        namesEachTest(page, root);
        Check.end();
    }

    /** The first block of that kind. */
    private static String block(List<String> page, String kind) {
        StringBuilder told = new StringBuilder();
        int at = page.indexOf("```" + kind);
        Check.due("there is a block of " + kind, at >= 0, true);
        for (int k = at + 1; at >= 0 && k < page.size() && !page.get(k).equals("```"); k++) {
            told.append(page.get(k)).append('\n');
        }
        return told.toString();
    }

    private static String run(String example) throws Exception {
        Path folder = Files.createTempDirectory("readme");
        Path file = folder.resolve("Hello.java");
        Files.writeString(file, example);
        String[] options = {"-d", folder.toString(), "-cp", System.getProperty("java.class.path"), file.toString()};
        Check.due("the example compiles", ToolProvider.getSystemJavaCompiler().run(null, null, null, options), 0);
        PrintStream before = System.out;
        ByteArrayOutputStream told = new ByteArrayOutputStream();
        try (URLClassLoader loader = new URLClassLoader(new URL[] {folder.toUri().toURL()})) {
            System.setOut(new PrintStream(told, true));
            loader.loadClass("Hello").getMethod("main", String[].class).invoke(null, (Object) new String[0]);
        } finally {
            System.setOut(before);
            clear(folder);
        }
        return told.toString().replace("\r", "");
    }

    private static void clear(Path folder) throws IOException {
        try (var files = Files.list(folder)) {
            for (Path file : files.toList()) {
                Files.delete(file);
            }
        }
        Files.delete(folder);
    }

    /** Each call stands in a table with its parameters, and in that of the exceptions with just those that it throws. */
    private static void tables(List<String> page) {
        List<String> rows = new ArrayList<>();
        for (String line : page) {
            if (line.startsWith("| `")) {
                rows.add(line);
            }
        }
        for (String face : FaceTest.FACE) {
            String name = face.substring(face.indexOf(' ') + 1, face.indexOf('('));
            String types = face.substring(face.indexOf('(') + 1, face.indexOf(')'));
            int parameters = types.isEmpty() ? 0 : types.split(",").length;
            int told = 0;
            for (String row : rows) {
                if (row.startsWith("| `" + name + "(")) {
                    String inside = row.substring(row.indexOf('(') + 1, row.indexOf(')'));
                    Check.due("parameters of " + name, inside.isEmpty() ? 0 : inside.split(",").length, parameters);
                    told++;
                } else if (row.startsWith("| `" + name + "` |")) {
                    Check.due("what " + name + " throws", thrown(row), face.substring(face.indexOf(')') + 2));
                    told++;
                }
            }
            Check.due("rows of " + name, told, 2);
        }
    }

    /** B, A and S for the columns that are not empty. */
    private static String thrown(String row) {
        String[] cells = row.split("\\|", -1);
        StringBuilder letters = new StringBuilder();
        for (int k = 0; k < 3 && k + 2 < cells.length; k++) {
            letters.append(cells[k + 2].isBlank() ? "" : "BAS".substring(k, k + 1));
        }
        return letters.toString();
    }

    private static void namesEachTest(List<String> page, Path root) throws IOException {
        String whole = String.join("\n", page);
        try (var files = Files.list(root.resolve("src/test/java"))) {
            for (Path file : files.toList()) {
                String name = file.getFileName().toString().replace(".java", "");
                Check.due(name + " has its row", !name.endsWith("Test") || whole.contains("| `" + name + "` |"), true);
            }
        }
    }
}
