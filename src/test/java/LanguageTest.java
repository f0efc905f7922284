import java.io.IOException;
import java.lang.reflect.Method;
import java.lang.reflect.Modifier;
import java.nio.file.Files;
import java.nio.file.Path;
import java.util.ArrayList;
import java.util.HashSet;
import java.util.List;
import java.util.Set;
import java.util.regex.Matcher;
import java.util.regex.Pattern;

/** Rules of ../shared/LANGUAGE.md that can be seen from the text or the face of the class. Runs in the project's folder. */
final class LanguageTest {
    private static final String[] FORBIDDEN = {
        "\\bimport\\b", "\\bpackage\\b", "->", "::", "\\btry\\b", "\\bcatch\\b", "\\bfinally\\b", "\\bsynchronized\\b",
        "\\bassert\\b", "\\bstatic\\s*\\{", "\\bprotected\\b", "Exact\\(", "\\bvar\\b", "\\binstanceof\\b",
        "\\bSystem\\.", "\\bThread\\b", "\\bhashCode\\b", "\\bequals\\b", "\\btoString\\b", "[^\\x01-\\x7f]",
    };
    private static final Pattern WRITTEN_THROW = Pattern.compile(
            "throw new (IllegalState|IllegalArgument|IndexOutOfBounds)Exception\\(\"[^\"]*\"\\);");

    private LanguageTest() {
    }

    public static void main(String[] args) throws IOException {
        String text = Files.readString(Path.of("src/main/java/Hexstead.java"));
        for (String pattern : FORBIDDEN) {
            Check.same("no " + pattern, count(Pattern.compile(pattern), text), 0);
        }
        Check.same("6: throws with a written text", count(WRITTEN_THROW, text), count(Pattern.compile("\\bthrow\\b"), text));
        Check.same("5: static fields are final", count(Pattern.compile("(?m)static (?!final)[^({]*[;=]"), text), 0);
        methodsAreShort(text);
        List<Class<?>> all = new ArrayList<>();
        all.add(Hexstead.class);
        all.addAll(List.of(Hexstead.class.getDeclaredClasses()));
        Check.same("11: at most twelve classes", Math.max(12, all.size()), 12);
        namesAndParameters(all);
        Check.end();
    }

    private static int count(Pattern pattern, String text) {
        int count = 0;
        Matcher matcher = pattern.matcher(text);
        while (matcher.find()) {
            count++;
        }
        return count;
    }

    /** Methods hold no empty lines and are parted by them, so no method is longer than the longest row without one. */
    private static void methodsAreShort(String text) {
        int lines = 0;
        int most = 0;
        for (String line : text.split("\n")) {
            lines = line.isBlank() ? 0 : lines + 1;
            most = Math.max(most, lines);
        }
        Check.same("11: lines of the longest method", Math.max(60, most), 60);
    }

    private static void namesAndParameters(List<Class<?>> all) {
        Set<String> face = new HashSet<>();
        for (Method method : Hexstead.class.getDeclaredMethods()) {
            if (Modifier.isPublic(method.getModifiers())) {
                face.add(method.getName());
            }
        }
        for (Class<?> each : all) {
            for (Method method : each.getDeclaredMethods()) {
                boolean ofFace = each == Hexstead.class && Modifier.isPublic(method.getModifiers());
                Check.same("1: " + method + " bears a name of the face", !ofFace && face.contains(method.getName()) ? 1 : 0, 0);
                Check.same("11: parameters of " + method, Math.max(7, method.getParameterCount()), 7);
            }
        }
    }
}
