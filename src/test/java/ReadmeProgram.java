import java.io.IOException;
import java.lang.reflect.Method;
import java.lang.reflect.Modifier;
import java.nio.file.Files;
import java.nio.file.Path;
import java.util.regex.Matcher;
import java.util.regex.Pattern;

/**
 * Prints a program, class Readme, of the rows of Java in README.md: where a row says behind // what a call answers, the
 * program ends with exit code 1 if it answers otherwise. Ends with exit code 1 itself if the page leaves a call out.
 */
public final class ReadmeProgram {
    private static final Pattern BLOCK = Pattern.compile("```java\n(.*?)```", Pattern.DOTALL);
    private static final Pattern ROW =
            Pattern.compile("(lawn\\.\\w+\\(.*\\)|readText\\(.*\\)); +// (-?[0-9]+|true|false)(?::? .*)?");

    public static void main(String[] args) throws IOException {
        String page = Files.readString(Path.of("README.md"));
        if (!namesEveryCall(page)) {
            System.exit(1);
        }
        StringBuilder methods = new StringBuilder();
        StringBuilder rows = new StringBuilder();
        Matcher block = BLOCK.matcher(page);
        while (block.find()) {
            if (block.group(1).startsWith("static ")) {
                methods.append(block.group(1));
            } else {
                block.group(1).lines().forEach(row -> rows.append(asked(row)).append('\n'));
            }
        }
        System.out.println("public final class Readme {\n"
                + "static int wrong = 0;\n"
                + "static int asked = 0;\n"
                + "static void due(String call, Object got, Object want) {\n"
                + "asked++;\n"
                + "if (!got.equals(want)) {\n"
                + "wrong++;\n"
                + "System.out.println(call + \" answered \" + got + \", README.md says \" + want);\n"
                + "}\n}\n"
                + methods
                + "public static void main(String[] args) {\n"
                + rows
                + "System.out.println(\"README.md: \" + asked + \" answers, \" + wrong + \" not as it says\");\n"
                + "System.exit(wrong == 0 && asked > 0 ? 0 : 1);\n"
                + "}\n}");
    }

    /** A row that tells an answer as a look at that answer, another as it stands. */
    private static String asked(String row) {
        Matcher telling = ROW.matcher(row);
        if (!telling.matches()) {
            if (row.contains("//")) {
                System.err.println("README.md tells no answer: " + row);
                System.exit(1);
            }
            return row;
        }
        String name = telling.group(1).replace("\"", "\\\"");
        return "due(\"" + name + "\", " + telling.group(1) + ", " + telling.group(2) + ");";
    }

    private static boolean namesEveryCall(String page) {
        boolean all = true;
        for (Method method : BandstandLawn.class.getDeclaredMethods()) {
            boolean named = Pattern.compile("\\b" + method.getName() + "\\(").matcher(page).find();
            if (Modifier.isPublic(method.getModifiers()) && !named) {
                System.err.println("README.md does not name " + method.getName());
                all = false;
            }
        }
        return all;
    }
}
