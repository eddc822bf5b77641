import java.io.IOException;
import java.lang.reflect.Method;
import java.lang.reflect.Modifier;
import java.nio.file.Files;
import java.nio.file.Path;
import java.util.regex.Matcher;
import java.util.regex.Pattern;

// What README.md says of the class: the answers of its program, the calls and the tests that it lists.
public final class ReadmeTest {
    private static final Pattern ROW = Pattern.compile(" x\\.(\\w+\\([^)]*\\)); +// (\\S+)[:]");

    public static void main(String[] args) throws IOException {
        String page = Files.readString(Path.of("README.md"));
        program(page);
        calls(page);
        tests(page);
        Check.end();
    }

    private static void program(String page) {
        StringBuilder rows = new StringBuilder();
        int found = 0;
        Matcher row = ROW.matcher(page);
        while (row.find()) {
            rows.append(row.group(1)).append(" = ").append(due(row.group(2))).append(';');
            found++;
        }
        Check.due("calls in the program", found, page.split(" x\\.", -1).length - 1);
        Check.due("there is a program", found > 0, true);
        Run.of("README.md", rows.toString());
    }

    private static String due(String answer) {
        return answer.equals("IndexOutOfBoundsException") ? "INDEX" : answer;
    }

    private static void calls(String page) {
        for (Method method : FridgeGossip.class.getDeclaredMethods()) {
            if (Modifier.isPublic(method.getModifiers())) {
                Pattern call = Pattern.compile("`" + method.getName() + "\\(([^)]*)\\)`");
                Matcher told = call.matcher(page);
                boolean isTold = told.find();
                Check.due("README.md tells " + method.getName(), isTold, true);
                if (isTold) {
                    int numbers = told.group(1).isEmpty() ? 0 : told.group(1).split(",").length;
                    Check.due("arguments of " + method.getName(), numbers, method.getParameterCount());
                }
            }
        }
    }

    private static void tests(String page) throws IOException {
        try (var files = Files.list(Path.of("src/test/java"))) {
            for (Path file : files.toList()) {
                String name = file.getFileName().toString().replace(".java", "");
                Check.due("README.md tells " + name, page.contains("`" + name + "`"), true);
            }
        }
    }
}
