import java.io.IOException;
import java.lang.reflect.Constructor;
import java.lang.reflect.Field;
import java.lang.reflect.Method;
import java.lang.reflect.Modifier;
import java.nio.file.Files;
import java.nio.file.Path;
import java.util.ArrayList;
import java.util.Arrays;
import java.util.List;
import java.util.TreeSet;
import java.util.regex.Matcher;
import java.util.regex.Pattern;

/** What of ../shared/LANGUAGE.md can be seen from the source and from the class itself. */
public final class LanguageTest {
    private static final List<String> FACE = List.of(
        "int write(int)", "int wipe()", "int fault()", "int net()", "int edge(int,int)", "int searcher(int,int)",
        "int step(int,int)", "int round()", "int join()", "int hide(int)", "int undo()", "int ask(int)",
        "int fate(int,int)", "int judge(int,long)", "int see(int,int)", "int unsee()", "int which()",
        "int share(int,boolean)", "int luck(int,int,boolean)", "long seed(long)", "int drawn(int)", "int keep(int)",
        "int again(int)", "int count(int)");
    private static final List<String> CONSTANTS = List.of("UNKNOWN", "OUTSIDE", "STATE", "FULL", "NONE");
    private static final List<String> ALLOWED_CALLS = List.of("Arrays.fill", "System.arraycopy", "Integer.bitCount",
        "Math.min", "Math.max");
    private static final List<String> FORBIDDEN = List.of("throw", "throws", "try", "catch", "finally", "synchronized",
        "assert", "import static", "float", "double", "->", "::", "String ", "Object", "package", "protected");

    private static int wrong = 0;

    private static void check(boolean fine, String fault) {
        if (!fine) {
            wrong++;
            System.out.println(fault);
        }
    }

    public static void main(String[] args) throws IOException {
        face();
        nestedClasses();
        source(plain(Files.readString(Path.of("src/main/java/DarkPlace.java"))));
        System.out.println(wrong == 0 ? "the language is kept to" : wrong + " faults of language");
        if (wrong != 0) {
            System.exit(1);
        }
    }

    private static String signature(Method method) {
        StringBuilder types = new StringBuilder();
        for (Class<?> type : method.getParameterTypes()) {
            types.append(types.length() == 0 ? "" : ",").append(type.getSimpleName());
        }
        return method.getReturnType().getSimpleName() + " " + method.getName() + "(" + types + ")";
    }

    private static void face() {
        check(Modifier.isPublic(DarkPlace.class.getModifiers()) && Modifier.isFinal(DarkPlace.class.getModifiers()),
            "rule 1: the class is public and final");
        TreeSet<String> found = new TreeSet<>();
        TreeSet<String> names = new TreeSet<>();
        for (Method method : DarkPlace.class.getDeclaredMethods()) {
            if (!Modifier.isPrivate(method.getModifiers())) {
                found.add(signature(method));
                names.add(method.getName());
                check(!Modifier.isStatic(method.getModifiers()), "rule 1: static " + method);
            }
        }
        check(found.equals(new TreeSet<>(FACE)), "rule 1: the methods of the face are " + found);
        for (Method method : DarkPlace.class.getDeclaredMethods()) {
            check(!Modifier.isPrivate(method.getModifiers()) || !names.contains(method.getName()), "rule 1: " + method);
        }
        List<String> constants = new ArrayList<>();
        for (Field field : DarkPlace.class.getDeclaredFields()) {
            if (!Modifier.isPrivate(field.getModifiers())) {
                constants.add(field.getName());
                check(Modifier.isPublic(field.getModifiers()) && Modifier.isStatic(field.getModifiers())
                    && Modifier.isFinal(field.getModifiers()) && field.getType() == int.class, "rule 1: " + field);
            }
        }
        check(constants.equals(CONSTANTS), "rule 1: the constants are " + constants);
        Constructor<?>[] constructors = DarkPlace.class.getDeclaredConstructors();
        check(constructors.length == 1 && Modifier.isPublic(constructors[0].getModifiers())
            && constructors[0].getParameterCount() == 0, "rule 1: the constructor");
    }

    private static void nestedClasses() {
        List<Class<?>> all = new ArrayList<>(Arrays.asList(DarkPlace.class.getDeclaredClasses()));
        check(all.size() <= 11, "rule 11: " + all.size() + " classes inside");
        for (Class<?> inside : all) {
            int modifiers = inside.getModifiers();
            check(Modifier.isStatic(modifiers) && !Modifier.isPublic(modifiers) && !Modifier.isProtected(modifiers),
                "rule 1: " + inside);
        }
        all.add(DarkPlace.class);
        for (Class<?> one : all) {
            int own = 0;
            for (Field field : one.getDeclaredFields()) {
                boolean isStatic = Modifier.isStatic(field.getModifiers());
                own += isStatic ? 0 : 1;
                check(!isStatic || Modifier.isFinal(field.getModifiers()), "rule 5: " + field);
            }
            check(own <= 20, "rule 11: " + own + " fields in " + one);
            for (Method method : one.getDeclaredMethods()) {
                check(method.getParameterCount() <= 7, "rule 11: " + method);
                check(!method.isSynthetic(), "rule 2: " + method);
            }
        }
    }

    /** The source without comments and without what stands between quotes. */
    private static String plain(String source) {
        return source.replaceAll("(?s)/\\*.*?\\*/", " ").replaceAll("//[^\n]*", " ").replaceAll("'[^']*'", "0")
            .replaceAll("\"[^\"]*\"", "text");
    }

    private static void source(String source) {
        for (String word : FORBIDDEN) {
            boolean isWord = Character.isLetter(word.charAt(0));
            Pattern pattern = Pattern.compile(isWord ? "\\b" + word + (word.endsWith(" ") ? "" : "\\b") : Pattern.quote(word));
            check(!pattern.matcher(source).find(), "rules 2, 3, 6: '" + word + "' in the source");
        }
        Matcher imports = Pattern.compile("import ([^;]*);").matcher(source);
        while (imports.find()) {
            check(imports.group(1).equals("java.util.Arrays"), "rule 4: import " + imports.group(1));
        }
        Matcher library = Pattern.compile("\\b(Arrays|System|Integer|Long|Math)\\.\\w+").matcher(source);
        while (library.find()) {
            check(ALLOWED_CALLS.contains(library.group()), "rule 4: " + library.group());
        }
        check(!Pattern.compile("while \\(true|for \\([^;)]*; *;").matcher(source).find(), "rule 9: a loop without an end");
        for (char letter : source.toCharArray()) {
            check(letter < 128, "rule 4: a sign beyond 127");
        }
        methodsAreShort(source);
    }

    private static void methodsAreShort(String source) {
        int length = 0;
        for (String line : source.split("\n")) {
            length = line.matches(" {4,8}[\\w\\[\\] ]+\\(.*\\) \\{") ? 1 : length + 1;
            if (line.matches(" {4,8}\\}")) {
                check(length <= 60, "rule 11: a method of " + length + " lines");
            }
        }
    }
}
