import java.io.IOException;
import java.lang.reflect.Constructor;
import java.lang.reflect.Field;
import java.lang.reflect.Method;
import java.lang.reflect.Modifier;
import java.nio.file.Files;
import java.nio.file.Path;
import java.util.List;

/** What ../shared/LANGUAGE.md says of members, sizes and words, as far as it can be read off the class and its file. */
public final class LanguageTest {
    /** Ruled out there, or let in under conditions that the class does without. */
    private static final String[] NOT_USED = {
        "->", "::", "Exact(", "catch", "finally", "synchronized", "assert", "instanceof", "static {", "@Override",
        "String.", "System.", "Random", "hashCode", "equals(", "toString", "\" +", "+ \"", "\t",
    };
    private static final String[] LIBRARY = {"import java.util.ArrayList;", "import java.util.List;"};
    private static final int MOST_CLASSES = 12, MOST_FIELDS = 20, MOST_PARAMETERS = 7, MOST_LINES = 60;

    public static void main(String[] args) throws IOException {
        Class<?> house = CascadeHouse.class;
        Class<?>[] inside = house.getDeclaredClasses();
        Check.due("at most twelve classes", inside.length + 1 <= MOST_CLASSES, true);
        members(house, true);
        for (Class<?> one : inside) {
            int is = one.getModifiers();
            Check.due(one + " is not public, and static", !Modifier.isPublic(is) && !Modifier.isProtected(is) && Modifier.isStatic(is), true);
            members(one, false);
        }
        List<String> lines = Files.readAllLines(Path.of(System.getProperty("cascade.source", "src/main/java/CascadeHouse.java")));
        words(lines);
        lengths(lines);
        Check.end();
    }

    private static void members(Class<?> one, boolean isOuter) {
        int fields = 0;
        for (Field field : one.getDeclaredFields()) {
            int is = field.getModifiers();
            fields += Modifier.isStatic(is) ? 0 : 1;
            Check.due(field + " is final if static", !Modifier.isStatic(is) || Modifier.isFinal(is), true);
            boolean isConstant = Modifier.isPublic(is) && Modifier.isStatic(is);
            Check.due(field + " is private if not a constant", !isOuter || isConstant || Modifier.isPrivate(is), true);
        }
        Check.due(one + " has at most twenty fields", fields <= MOST_FIELDS, true);
        for (Method method : one.getDeclaredMethods()) {
            boolean isFace = isOuter && Modifier.isPublic(method.getModifiers());
            Check.due(method + " takes at most seven", method.getParameterCount() <= MOST_PARAMETERS, true);
            Check.due(method + " is private or of the face", !isOuter || isFace || Modifier.isPrivate(method.getModifiers()), true);
            for (String line : FaceTest.FACE) {
                Check.due(method + " bears a public name", !isFace && line.contains(" " + method.getName() + "("), false);
            }
        }
        for (Constructor<?> made : one.getDeclaredConstructors()) {
            Check.due(made + " takes at most seven", made.getParameterCount() <= MOST_PARAMETERS, true);
        }
    }

    private static void words(List<String> lines) {
        for (int k = 0; k < lines.size(); k++) {
            String code = lines.get(k).trim();
            String where = "line " + (k + 1);
            if (!code.startsWith("*") && !code.startsWith("/**") && !code.startsWith("//")) {
                for (String word : NOT_USED) {
                    Check.due(where + " has " + word, lines.get(k).contains(word), false);
                }
                Check.due(where + " is a package line", code.startsWith("package"), false);
                Check.due(where + " brings in what may be", !code.startsWith("import") || List.of(LIBRARY).contains(code), true);
            }
        }
    }

    /** A method begins with a line that ends in ") {" or in what it throws, and ends with a brace as far to the right. */
    private static void lengths(List<String> lines) {
        for (int k = 0; k < lines.size(); k++) {
            String line = lines.get(k);
            String code = line.trim();
            boolean isMethod = code.matches("(public |private |static |final )*[A-Za-z\\[\\]<>]+ [a-zA-Z]+\\(.*\\).*\\{");
            if (isMethod && !code.startsWith("else") && !code.startsWith("return")) {
                String end = line.substring(0, line.indexOf(code)) + "}";
                int last = k;
                while (last < lines.size() && !lines.get(last).equals(end)) {
                    last++;
                }
                Check.due("the method in line " + (k + 1) + " is short", last - k < MOST_LINES, true);
            }
        }
    }
}
