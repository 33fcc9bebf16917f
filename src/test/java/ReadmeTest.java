import java.io.IOException;
import java.lang.reflect.Field;
import java.lang.reflect.Method;
import java.lang.reflect.Modifier;
import java.nio.file.DirectoryStream;
import java.nio.file.Files;
import java.nio.file.Path;
import java.util.regex.Pattern;

/** README.md shows the whole face and names every test; that its answers are right, the program made by ReadmeCode tells. */
public final class ReadmeTest {
    private static int wrong = 0;

    private static void check(boolean fine, String fault) {
        if (!fine) {
            wrong++;
            System.out.println(fault);
        }
    }

    public static void main(String[] args) throws IOException {
        ReadmeCode code = new ReadmeCode();
        for (String fault : code.faults) {
            check(false, fault);
        }
        for (Method method : DarkPlace.class.getDeclaredMethods()) {
            check(!Modifier.isPublic(method.getModifiers()) || code.calls.contains(method.getName()),
                "README.md shows no answer of " + method.getName());
        }
        for (Field field : DarkPlace.class.getDeclaredFields()) {
            check(!Modifier.isPublic(field.getModifiers()) || code.constants.contains(field.getName()),
                "README.md does not tell " + field.getName());
        }
        String page = Files.readString(Path.of("README.md"));
        namesEveryTest(page);
        for (String told : new String[] {"new DarkPlace()", "at most 512 calls", ".ci/run", "../shared/tests", "FAILED:"}) {
            check(page.contains(told), "README.md does not tell '" + told + "'");
        }
        System.out.println(code.calls.size() + " calls are shown, " + wrong + " faults");
        if (wrong != 0) {
            System.exit(1);
        }
    }

    private static void namesEveryTest(String page) throws IOException {
        try (DirectoryStream<Path> tests = Files.newDirectoryStream(Path.of("src/test/java"), "*Test.java")) {
            for (Path test : tests) {
                String name = test.getFileName().toString().replace(".java", "");
                check(Pattern.compile("\\b" + name + "\\b").matcher(page).find(), "README.md does not name " + name);
            }
        }
    }
}
