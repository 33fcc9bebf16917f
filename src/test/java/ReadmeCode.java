import java.io.IOException;
import java.nio.file.Files;
import java.nio.file.Path;
import java.util.ArrayList;
import java.util.List;
import java.util.regex.Matcher;
import java.util.regex.Pattern;

/**
 * The Java that README.md shows, as a program that makes each call as it stands there and holds it against the answer that is
 * told behind it. Its lines are copied, so that what does not compile as it is shown is found too.
 */
final class ReadmeCode {
    private static final Path PAGE = Path.of("README.md");
    /** A call of x on a line of its own, and its answer: a number, or a constant's name with its number. */
    private static final Pattern SHOWN = Pattern.compile(
        "(x\\.(\\w+)\\(.*\\)); +// (?:(-?\\d+)|([A-Z]+) \\((-\\d+)\\)): .+");
    /** A row of the table that tells the constants. */
    private static final Pattern CONSTANT = Pattern.compile("\\| `([A-Z]+)` \\| (-?\\d+) \\| .+");

    /** The names of the calls that are shown with an answer, and of the constants that are told. */
    final List<String> calls = new ArrayList<>();
    final List<String> constants = new ArrayList<>();
    /** What is shown in a way that can not be held against an answer. */
    final List<String> faults = new ArrayList<>();
    private final StringBuilder body = new StringBuilder();

    ReadmeCode() throws IOException {
        boolean isJava = false;
        int number = 0;
        for (String line : Files.readAllLines(PAGE)) {
            number++;
            if (line.startsWith("```")) {
                isJava = line.equals("```java");
            } else if (isJava) {
                takeJava(number, line);
            } else {
                takeText(number, line);
            }
        }
    }

    private void takeJava(int number, String line) {
        Matcher shown = SHOWN.matcher(line);
        if (shown.matches()) {
            calls.add(shown.group(2));
            boolean isNamed = shown.group(4) != null;
            if (isNamed) {
                hold(number, "DarkPlace." + shown.group(4), shown.group(5));
            }
            hold(number, shown.group(1), isNamed ? shown.group(5) : shown.group(3));
        } else if (line.startsWith("x.") || line.contains("//")) {
            faults.add("README.md, line " + number + ": no answer is told as it should be: " + line);
        } else {
            body.append("        ").append(line).append('\n');
        }
    }

    private void takeText(int number, String line) {
        Matcher constant = CONSTANT.matcher(line);
        if (constant.matches()) {
            constants.add(constant.group(1));
            hold(number, "DarkPlace." + constant.group(1), constant.group(2));
        }
    }

    private void hold(int line, String shown, String answer) {
        String quoted = shown.replace("\\", "\\\\").replace("\"", "\\\"");
        body.append("        due(").append(line).append(", \"").append(quoted).append("\", ").append(shown).append(", ")
            .append(answer).append("L);\n");
    }

    private String program() {
        return """
            public final class ReadmeRuns {
                private static int right = 0;
                private static int wrong = 0;

                private static void due(int line, String shown, long got, long want) {
                    if (got == want) {
                        right++;
                    } else {
                        wrong++;
                        System.out.println("README.md, line " + line + ": " + shown + " is " + got + ", told is " + want);
                    }
                }

                public static void main(String[] args) {
            %s
                    System.out.println(right + " answers as told, " + wrong + " not");
                    System.exit(wrong == 0 ? 0 : 1);
                }
            }
            """.formatted(body);
    }

    public static void main(String[] args) throws IOException {
        System.out.print(new ReadmeCode().program());
    }
}
