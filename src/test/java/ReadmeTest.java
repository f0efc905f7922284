import java.io.IOException;
import java.lang.reflect.Method;
import java.lang.reflect.Modifier;
import java.net.URL;
import java.net.URLClassLoader;
import java.nio.file.Files;
import java.nio.file.Path;
import java.util.List;
import java.util.regex.Matcher;
import java.util.regex.Pattern;
import javax.tools.ToolProvider;

/** README.md against the class: its example is run, its table is held beside the face. Runs in the project's folder. */
final class ReadmeTest {
    private static final Path FOLDER = Path.of("build", "readme");
    private static final Pattern EXAMPLE = Pattern.compile("(?s)```java\n(.*?)```");
    private static final Pattern TOLD = Pattern.compile("(.*);\\s*// (answers|throws) ([\\w.]+).*");
    private static final Pattern ROW = Pattern.compile("\\| `(\\w+)\\((.*?)\\)` \\| .* \\| ([IAS ]*)\\|");

    private ReadmeTest() {
    }

    public static void main(String[] args) throws IOException, ReflectiveOperationException {
        String text = Files.readString(Path.of("README.md"));
        example(text);
        table(text);
        Check.end();
    }

    private static void example(String text) throws IOException, ReflectiveOperationException {
        Matcher found = EXAMPLE.matcher(text);
        Check.same("README has an example", found.find() ? 1 : 0, 1);
        Files.createDirectories(FOLDER);
        Path file = FOLDER.resolve("ReadmeExample.java");
        Files.writeString(file, program(found.group(1)));
        int code = ToolProvider.getSystemJavaCompiler().run(null, null, null, "-d", FOLDER.toString(),
                "-cp", System.getProperty("java.class.path"), file.toString());
        Check.same("README's example compiles", code, 0);
        try (URLClassLoader loader = new URLClassLoader(new URL[] {FOLDER.toUri().toURL()})) {
            List<?> rows = (List<?>) loader.loadClass("ReadmeExample").getMethod("rows").invoke(null);
            for (Object row : rows) {
                String[] parts = (String[]) row;
                Check.same("README's example: " + parts[0], parts[1], parts[2]);
            }
        }
    }

    /** The example as a class whose call answers a row for each line: the line, what was answered, what README says. */
    private static String program(String example) {
        StringBuilder text = new StringBuilder("public final class ReadmeExample {\n");
        text.append("public static java.util.List<String[]> rows() {\n");
        text.append("java.util.List<String[]> rows = new java.util.ArrayList<>();\n");
        for (String line : example.split("\n")) {
            Matcher told = TOLD.matcher(line);
            if (!told.matches()) {
                text.append(line).append('\n');
            } else if (told.group(2).equals("answers")) {
                text.append("rows.add(new String[] {").append(quoted(told.group(1))).append(", \"\" + ");
                text.append(told.group(1)).append(", \"\" + ").append(told.group(3)).append("});\n");
            } else {
                text.append("try { ").append(told.group(1)).append("; rows.add(new String[] {");
                text.append(quoted(told.group(1))).append(", \"nothing\", ").append(quoted(told.group(3)));
                text.append("}); } catch (RuntimeException e) { rows.add(new String[] {");
                text.append(quoted(told.group(1))).append(", e.getClass().getSimpleName(), ");
                text.append(quoted(told.group(3))).append("}); }\n");
            }
        }
        return text.append("return rows;\n}\n}\n").toString();
    }

    private static String quoted(String words) {
        return "\"" + words.replace("\"", "\\\"") + "\"";
    }

    private static void table(String text) {
        int rows = 0;
        Matcher row = ROW.matcher(text);
        while (row.find()) {
            rows++;
            String told = row.group(1) + " " + (row.group(2).isEmpty() ? 0 : row.group(2).split(", ").length) + " "
                    + row.group(3).replace(" ", "");
            Check.same("README's row of " + row.group(1), told, ofFace(row.group(1)));
        }
        int calls = 0;
        for (Method method : Hexstead.class.getDeclaredMethods()) {
            if (Modifier.isPublic(method.getModifiers())) {
                calls++;
                Check.same("README names " + method.getName(), text.contains("| `" + method.getName() + "(") ? 1 : 0, 1);
            }
        }
        Check.same("README's rows of calls", rows, calls);
    }

    private static String ofFace(String name) {
        for (Method method : Hexstead.class.getDeclaredMethods()) {
            if (Modifier.isPublic(method.getModifiers()) && method.getName().equals(name)) {
                StringBuilder told = new StringBuilder(name).append(' ').append(method.getParameterCount()).append(' ');
                for (Class<?> type : method.getExceptionTypes()) {
                    told.append(type == Check.INDEX ? 'I' : type == Check.ARGUMENT ? 'A' : type == Check.STATE ? 'S' : '?');
                }
                return told.toString();
            }
        }
        return "no such call";
    }
}
