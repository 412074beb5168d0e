import java.io.IOException;
import java.lang.reflect.Method;
import java.lang.reflect.Modifier;
import java.nio.file.Files;
import java.nio.file.Path;
import java.util.regex.Matcher;
import java.util.regex.Pattern;

/** README.md says how to use the class: its example must answer as it says, its table have every call. */
public final class ReadmeTests extends Sentences {
    private static final Pattern EXAMPLE = Pattern.compile("x\\.(\\w+\\([^)]*\\));\\s*// (-?\\d+)");
    private static final int FEWEST_EXAMPLES = 10;

    private static String text(String readme) {
        Matcher m = Pattern.compile("String text = \"([^\"]*)\";").matcher(readme);
        return m.find() ? m.group(1) : "";
    }

    private void example(String readme) {
        Tried t = new Tried();
        put(t, text(readme));
        Matcher m = EXAMPLE.matcher(readme);
        int found = 0;
        while (m.find()) {
            expect(t, m.group(1).replace(" ", "") + "=" + m.group(2));
            found++;
        }
        due("examples of README.md are at least " + FEWEST_EXAMPLES, found >= FEWEST_EXAMPLES ? 1 : 0, 1);
    }

    private void table(String readme) {
        for (Method m : BranchingTalks.class.getDeclaredMethods()) {
            if (Modifier.isPublic(m.getModifiers())) {
                boolean named = Pattern.compile("(?m)^\\|.*`" + m.getName() + "`.*\\|.*\\|$").matcher(readme).find();
                due("the table of README.md has " + m.getName(), named ? 1 : 0, 1);
            }
        }
    }

    public static void main(String[] args) throws IOException {
        String readme = Files.readString(Path.of("README.md"));
        ReadmeTests tests = new ReadmeTests();
        tests.example(readme);
        tests.table(readme);
        tests.end();
    }
}
