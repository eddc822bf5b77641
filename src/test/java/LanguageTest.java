import java.io.IOException;
import java.lang.reflect.Constructor;
import java.lang.reflect.Field;
import java.lang.reflect.Method;
import java.lang.reflect.Modifier;
import java.nio.file.Files;
import java.nio.file.Path;
import java.util.ArrayList;
import java.util.List;

// What of LANGUAGE.md can be seen in the lines of the class and in its members.
public final class LanguageTest {
    private static final Path CLASS = Path.of("src/main/java/FridgeGossip.java");
    private static final List<String> RULED_OUT = List.of("->", "::", "catch", "finally", "synchronized", "assert",
        "static {", "System.", "protected", "volatile", "Thread", "Random", "Exact(", ".equals(", "hashCode",
        "toString", "@", " + \"", "\" + ", "package ", "for (;;)", "while (true)");

    public static void main(String[] args) throws IOException {
        List<String> lines = Files.readAllLines(CLASS);
        signs(lines);
        lengthsOfMethods(lines);
        List<Class<?>> classes = new ArrayList<>(List.of(FridgeGossip.class.getDeclaredClasses()));
        Check.due("classes inside", classes.size() <= 11, true);
        classes.add(FridgeGossip.class);
        for (Class<?> type : classes) {
            fields(type);
            parameters(type);
        }
        Check.end();
    }

    private static void signs(List<String> lines) {
        for (int i = 0; i < lines.size(); i++) {
            String line = lines.get(i);
            for (String sign : RULED_OUT) {
                Check.due("line " + (i + 1) + " holds " + sign, line.contains(sign), false);
            }
            Check.due("line " + (i + 1) + " imports", line.startsWith("import ")
                    && !line.equals("import java.util.Arrays;"), false);
            Check.due("line " + (i + 1) + " has signs of 1 to 127", line.chars().allMatch(c -> c > 0 && c < 128), true);
            boolean thrown = line.contains("throw ") && !line.matches(
                    " *throw new (IndexOutOfBounds|IllegalArgument|IllegalState)Exception\\(\"[^\"]*\"\\);");
            Check.due("line " + (i + 1) + " throws otherwise", thrown, false);
        }
    }

    /** Rule 11: what begins with a brace at the end of a line ends with one of the same indent. */
    private static void lengthsOfMethods(List<String> lines) {
        for (int i = 0; i < lines.size(); i++) {
            if (!lines.get(i).endsWith("{") || lines.get(i).contains("class ")) {
                continue;
            }
            int head = lines.get(i).stripLeading().startsWith("throws ") ? i - 1 : i;
            String end = indent(lines.get(head)) + "}";
            int last = i + 1;
            while (last < lines.size() && !lines.get(last).startsWith(end)) {
                last++;
            }
            Check.due("line " + (head + 1) + " begins at most 60 lines", last - head < 60, true);
        }
    }

    private static String indent(String line) {
        return line.substring(0, line.length() - line.stripLeading().length());
    }

    /** Rules 3, 5 and 11: fields are some twenty, rows of two dimensions hold numbers, and what is static is constant. */
    private static void fields(Class<?> type) {
        int own = 0;
        for (Field field : type.getDeclaredFields()) {
            boolean constant = Modifier.isStatic(field.getModifiers());
            own += constant ? 0 : 1;
            Check.due(field + " is a constant", !constant
                    || Modifier.isFinal(field.getModifiers()) && field.getType() == int.class, true);
            Class<?> held = field.getType();
            Check.due(field + " holds numbers", !held.isArray() || held == int[].class || held == int[][].class, true);
        }
        Check.due(type + " has some twenty fields", own <= 20, true);
    }

    private static void parameters(Class<?> type) {
        for (Method method : type.getDeclaredMethods()) {
            Check.due(method + " takes at most seven", method.getParameterCount() <= 7, true);
        }
        for (Constructor<?> made : type.getDeclaredConstructors()) {
            Check.due(made + " takes at most seven", made.getParameterCount() <= 7, true);
        }
    }
}
