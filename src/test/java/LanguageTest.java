import java.io.IOException;
import java.nio.file.Files;
import java.nio.file.Path;
import java.util.List;

// What of LANGUAGE.md can be seen in the lines of the class.
public final class LanguageTest {
    private static final Path CLASS = Path.of("src/main/java/FridgeGossip.java");
    private static final List<String> RULED_OUT = List.of("->", "::", "catch", "finally", "synchronized", "assert",
        "static {", "System.", "protected", "volatile", "Thread", "Random", "Exact(", ".equals(", "hashCode",
        "toString", "@", " + \"", "\" + ", "package ", "for (;;)", "while (true)");

    public static void main(String[] args) throws IOException {
        List<String> lines = Files.readAllLines(CLASS);
        for (int i = 0; i < lines.size(); i++) {
            String line = lines.get(i);
            for (String sign : RULED_OUT) {
                Check.due("line " + (i + 1) + " holds " + sign, line.contains(sign), false);
            }
            Check.due("line " + (i + 1) + " imports", line.startsWith("import ")
                    && !line.equals("import java.util.Arrays;"), false);
            Check.due("line " + (i + 1) + " has signs of 1 to 127", line.chars().allMatch(c -> c > 0 && c < 128), true);
            boolean thrown = line.contains("throw ") && !line.matches(
                    " *throw new (IndexOutOfBounds|IllegalArgument|IllegalState)Exception\\(\"[^\"]*\"\\);");
            Check.due("line " + (i + 1) + " throws otherwise", thrown, false);
        }
        Check.end();
    }
}
