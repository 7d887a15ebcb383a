import java.nio.charset.StandardCharsets;
import java.nio.file.Files;
import java.nio.file.Path;
import java.util.List;
import java.util.regex.Matcher;
import java.util.regex.Pattern;

/** Makes a program of the examples in README.md: each call with a number behind it must answer that number. */
final class ReadmeExamples {
    private static final Pattern ANSWERED = Pattern.compile("(court\\.\\w+\\(.*\\));\\s*// (-?\\d+): .*");

    private final StringBuilder program = new StringBuilder();
    private int examples = 0;
    private int answers = 0;

    private ReadmeExamples() {
    }

    /** The first argument is the page, the second the program to be written. */
    public static void main(String[] args) throws Exception {
        ReadmeExamples made = new ReadmeExamples();
        made.write(Files.readAllLines(Path.of(args[0]), StandardCharsets.UTF_8));
        if (made.answers == 0) {
            System.out.println("no answers on " + args[0]);
            System.exit(1);
        }
        Files.write(Path.of(args[1]), made.program.toString().getBytes(StandardCharsets.UTF_8));
    }

    private void write(List<String> page) {
        line("public final class Examples {");
        line("    private static int wrong = 0;");
        line("    private static void due(String call, long got, long want) {");
        line("        if (got != want) {");
        line("            wrong++;");
        line("            System.out.println(call + \" answered \" + got + \", README.md says \" + want);");
        line("        }");
        line("    }");
        boolean isExample = false;
        for (String text : page) {
            if (text.equals("```java")) {
                isExample = true;
                examples++;
                line("    private static void example" + examples + "() {");
            } else if (isExample && text.equals("```")) {
                isExample = false;
                line("    }");
            } else if (isExample) {
                example(text);
            }
        }
        line("    public static void main(String[] args) {");
        for (int k = 1; k <= examples; k++) {
            line("        example" + k + "();");
        }
        line("        System.out.println(\"" + answers + " answers on the page, \" + wrong + \" wrong\");");
        line("        System.exit(wrong == 0 ? 0 : 1);");
        line("    }");
        line("}");
    }

    private void example(String text) {
        Matcher answered = ANSWERED.matcher(text);
        if (!answered.matches()) {
            line("        " + text);
            return;
        }
        answers++;
        String call = answered.group(1);
        line("        due(\"" + call.replace("\"", "\\\"") + "\", " + call + ", " + answered.group(2) + "L);");
    }

    private void line(String text) {
        program.append(text).append('\n');
    }
}
