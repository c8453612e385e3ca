import java.io.ByteArrayOutputStream;
import java.io.IOException;
import java.io.PrintStream;
import java.lang.reflect.Method;
import java.lang.reflect.Modifier;
import java.nio.charset.StandardCharsets;
import java.nio.file.Files;
import java.nio.file.Path;
import java.util.ArrayList;
import java.util.List;
import java.util.stream.Collectors;
import java.util.stream.Stream;

/** What README.md says of how to use the class, and of the tests, is so. To be run at the top of the project. */
public final class ReadmeTest {
    private static final Path TESTS = Path.of("src", "test", "java");
    private static final Path CLASS = Path.of("src", "main", "java", "GlacierCamp.java");

    private static String readme = "";

    public static void main(String[] args) throws IOException {
        readme = Files.readString(Path.of("README.md"));
        Check.note(Files.exists(CLASS) && readme.contains("src/main/java/GlacierCamp.java"), "where the class is");
        example();
        calls();
        tests();
        ranges();
        Check.end();
    }

    private static void example() throws IOException {
        String code = Files.readString(TESTS.resolve("Example.java"));
        Check.note(block("```java\n", 0).equals(code), "the example is not Example.java");
        Check.note(block("```text\n", readme.indexOf("It prints:")).equals(printed()), "the example prints " + printed());
    }

    private static String printed() {
        PrintStream before = System.out;
        ByteArrayOutputStream bytes = new ByteArrayOutputStream();
        System.setOut(new PrintStream(bytes, true, StandardCharsets.UTF_8));
        Example.main(new String[0]);
        System.setOut(before);
        return bytes.toString(StandardCharsets.UTF_8).replace("\r", "");
    }

    /** What stands between this beginning, which is looked for from there on, and the end of the block. */
    private static String block(String beginning, int from) {
        int start = from < 0 ? -1 : readme.indexOf(beginning, from);
        int end = start < 0 ? -1 : readme.indexOf("```", start + beginning.length());
        return end < 0 ? "" : readme.substring(start + beginning.length(), end);
    }

    /** Each call of the class has one row, with as many arguments, and with its exceptions in their order. */
    private static void calls() {
        List<String> rows = readme.lines().filter(line -> line.startsWith("| `")).collect(Collectors.toList());
        List<String> told = new ArrayList<>();
        for (String row : rows) {
            String[] cells = row.split(" \\| |^\\| | ?\\|$");
            told.add(cells[1].replace("`", "").replaceAll("[a-z]\\w*(?=[,)])", "_") + " "
                    + (cells.length > 3 ? cells[3].trim() : ""));
        }
        Check.note(told.remove("new GlacierCamp() "), "there is no row of the constructor");
        for (Method method : GlacierCamp.class.getDeclaredMethods()) {
            if (Modifier.isPublic(method.getModifiers())) {
                Check.note(told.remove(row(method)), "there is no row " + row(method));
            }
        }
        Check.note(told.isEmpty(), "rows of nothing: " + told);
    }

    private static String row(Method method) {
        String arguments = Stream.of(method.getParameterTypes()).map(type -> "_").collect(Collectors.joining(", "));
        String exceptions = Stream.of(method.getExceptionTypes()).map(Class::getSimpleName)
                .map(name -> name.replaceAll("(OutOfBounds|Illegal|Exception)", "")).collect(Collectors.joining(", "));
        return method.getName() + "(" + arguments + ") " + exceptions;
    }

    private static void tests() throws IOException {
        try (Stream<Path> files = Files.list(TESTS)) {
            List<String> names = files.map(file -> file.getFileName().toString().replace(".java", ""))
                    .filter(name -> name.endsWith("Test")).collect(Collectors.toList());
            Check.note(names.size() > 10, "only these tests: " + names);
            for (String name : names) {
                Check.note(readme.contains("`" + name + "`"), "README.md does not tell of " + name);
            }
        }
        Check.note(readme.contains("\n.ci/run\n"), "README.md does not tell how the tests are run");
    }

    /** The ranges that README.md tells of a list's numbers: their ends are good, what is beyond has error 5. */
    private static void ranges() {
        String lists = block("```text\n", readme.indexOf("A list, on a tape"));
        String ahead = "band b height 0 snow 0;";
        for (String line : lists.lines().limit(6).collect(Collectors.toList())) {
            String told = line.split("   |NAME$")[0].replace("NAME", "b").replace("BAND", "b");
            String first = told.startsWith("band") ? "" : ahead;
            String least = told.replaceAll("(\\d+)-(\\d+)", "$1");
            String most = told.replaceAll("(\\d+)-(\\d+)", "$2");
            Check.note(!least.equals(most), "no range in " + line);
            Check.good(first + least + ";");
            Check.good(first + most + ";");
            String[] words = told.split(" ");
            for (int i = 0; i < words.length; i++) {
                if (words[i].matches("\\d+-\\d+")) {
                    int end = Integer.parseInt(words[i].substring(words[i].indexOf('-') + 1));
                    GlacierCamp camp = new GlacierCamp();
                    words[i] = String.valueOf(end + 1);
                    String beyond = first + String.join(" ", words).replaceAll("(\\d+)-(\\d+)", "$1") + ";";
                    Check.due("teach of " + beyond, Check.teach(camp, beyond), 5);
                    words[i] = String.valueOf(end);
                }
            }
        }
    }
}
