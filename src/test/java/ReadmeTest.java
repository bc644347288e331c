import java.io.File;
import java.io.IOException;
import java.lang.reflect.Method;
import java.lang.reflect.Modifier;
import java.nio.file.Files;
import java.nio.file.Path;
import java.util.List;
import java.util.regex.Matcher;
import java.util.regex.Pattern;

/** What README.md says of the class: its examples answer so, and it names every call and every test. */
public final class ReadmeTest {
    private static final Pattern NEW = Pattern.compile("LeaseOffice office = new LeaseOffice\\(\\);");
    private static final Pattern CALL = Pattern.compile("office\\.(\\w+)\\(([-0-9, ]*)\\); +// (-?\\d+).*");
    private static final Pattern FEED =
            Pattern.compile("for \\(char letter : \"(.*)\"\\.toCharArray\\(\\)\\) office\\.feed\\(letter\\);");

    public static void main(String[] args) throws IOException {
        List<String> lines = Files.readAllLines(Path.of("README.md"));
        theExamples(lines);
        theCalls(lines);
        theTests(lines);
        Due.end();
    }

    private static void theExamples(List<String> lines) {
        Calls office = null;
        int examples = 0;
        for (String line : lines) {
            Matcher call = CALL.matcher(line);
            Matcher feed = FEED.matcher(line);
            if (NEW.matcher(line).matches()) {
                office = new Calls();
                examples++;
            } else if (feed.matches() && office != null) {
                office.ask("type " + feed.group(1));
            } else if (call.matches() && office != null) {
                String numbers = call.group(2).replace(",", "");
                String words = (call.group(1) + " " + numbers).trim();
                Due.is("README.md: " + line, office.ask(words), Integer.parseInt(call.group(3)));
            } else {
                Due.is("README.md, not understood: " + line, line.contains("office.") ? 1 : 0, 0);
            }
        }
        Due.is("README.md: examples", examples, 3);
    }

    private static void theCalls(List<String> lines) {
        String calls = String.join("\n", lines);
        for (Method method : LeaseOffice.class.getDeclaredMethods()) {
            if (Modifier.isPublic(method.getModifiers())) {
                int parts = method.getParameterCount();
                String brackets = parts == 0 ? "\\(\\)" : "\\(\\w+(, \\w+){" + (parts - 1) + "}\\)";
                boolean named = Pattern.compile("\n\\|[^|]*`" + method.getName() + brackets + "`").matcher(calls).find();
                Due.is("README.md names " + method, named ? 1 : 0, 1);
            }
        }
    }

    private static void theTests(List<String> lines) {
        String[] names = new File("src/test/java").list((folder, name) -> name.endsWith("Test.java"));
        Due.is("there are tests", names != null && names.length > 0 ? 1 : 0, 1);
        for (String name : names == null ? new String[0] : names) {
            String row = "| `" + name.substring(0, name.length() - ".java".length()) + "` |";
            Due.is("README.md tells of " + name, lines.stream().anyMatch(line -> line.startsWith(row)) ? 1 : 0, 1);
        }
    }
}
