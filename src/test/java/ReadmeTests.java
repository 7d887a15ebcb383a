import java.io.File;
import java.lang.reflect.Method;
import java.lang.reflect.Modifier;
import java.nio.charset.StandardCharsets;
import java.nio.file.Files;
import java.nio.file.Path;
import java.util.regex.Matcher;
import java.util.regex.Pattern;

/** What README.md says of the calls, of the tests and of how they are run stands as it says. */
final class ReadmeTests {
    private static final Pattern CALL_OF_THE_TABLE = Pattern.compile("`(\\w+)\\(([\\w, ]*)\\)`");
    private static final Pattern FILE_OF_A_COMMAND = Pattern.compile("src/[\\w/.*]+java");

    private final Checks checks;

    ReadmeTests(Checks checks) {
        this.checks = checks;
    }

    void runAll() throws Exception {
        checks.begin("README.md");
        String page = read("README.md");
        everyCallIsNamed(page);
        namedCallsAreThere(page);
        everyTestIsNamedAndRun(page);
        commandsNameWhatIsThere(page);
    }

    private static String read(String path) throws Exception {
        return new String(Files.readAllBytes(Path.of(path)), StandardCharsets.UTF_8);
    }

    private void everyCallIsNamed(String page) {
        for (Method method : WitnessesMustLie.class.getDeclaredMethods()) {
            if (Modifier.isPublic(method.getModifiers())) {
                checks.holds("it names " + method.getName(), page.contains("`" + method.getName() + "("));
            }
        }
    }

    /** With as many numbers as the page says. */
    private void namedCallsAreThere(String page) {
        Matcher named = CALL_OF_THE_TABLE.matcher(page);
        while (named.find()) {
            int numbers = named.group(2).isEmpty() ? 0 : named.group(2).split(",").length;
            boolean isThere = false;
            for (Method method : WitnessesMustLie.class.getDeclaredMethods()) {
                boolean isPublic = Modifier.isPublic(method.getModifiers());
                isThere |= isPublic && method.getName().equals(named.group(1)) && method.getParameterCount() == numbers;
            }
            checks.holds("there is " + named.group(), isThere);
        }
    }

    private void everyTestIsNamedAndRun(String page) throws Exception {
        String all = read("src/test/java/AllTests.java");
        String script = read(".ci/run");
        for (File file : new File("src/test/java").listFiles()) {
            String name = file.getName().replace(".java", "");
            boolean isATest = name.matches("\\w+(Tests|Edges|Runs)") && !name.matches("AllTests|CourtTests");
            if (isATest) {
                checks.holds("AllTests runs " + name, all.contains("new " + name + "(checks)"));
            }
            if (isATest || name.matches("AllTests|NaiveCourt|ReadmeExamples")) {
                checks.holds("it names " + name, page.contains("`" + name + "`"));
            }
        }
        checks.holds("the script runs AllTests", script.contains(" AllTests"));
        checks.holds("the script runs the examples", script.contains(" ReadmeExamples README.md"));
    }

    private void commandsNameWhatIsThere(String page) {
        checks.holds("it names the script", page.contains("\n.ci/run\n"));
        Matcher named = FILE_OF_A_COMMAND.matcher(page);
        while (named.find()) {
            String path = named.group().replace("/*.java", "");
            checks.holds("there is " + named.group(), new File(path).exists());
        }
    }
}
