import java.io.ByteArrayOutputStream;
import java.io.IOException;
import java.nio.charset.StandardCharsets;
import java.nio.file.Files;
import java.nio.file.Path;
import java.util.ArrayList;
import java.util.List;
import java.util.concurrent.ExecutionException;
import java.util.concurrent.ExecutorService;
import java.util.concurrent.Executors;
import java.util.concurrent.Future;
import java.util.concurrent.TimeUnit;
import java.util.stream.Stream;
import javax.tools.ToolProvider;

/**
 * Tests the tests: makes each break of src/test/breaks.txt in a copy of the class, and tells which of them the test
 * that names the sentence does not notice. Run it at the top of the project: java src/test/java/Breaks.java
 */
public final class Breaks {
    private static final Path MAIN = Path.of("src", "main", "java", "GlacierCamp.java");
    private static final int MOST_SECONDS = 120;

    private final String source;
    private final Path tests;

    private Breaks(String source, Path tests) {
        this.source = source;
        this.tests = tests;
    }

    private static final class Break {
        private String[] tests;
        private String sentence;
        private String old;
        private String broken;
    }

    public static void main(String[] args) throws IOException, InterruptedException, ExecutionException {
        Path tests = Files.createTempDirectory("tests");
        List<String> files = new ArrayList<>(List.of(MAIN.toString()));
        try (Stream<Path> all = Files.list(Path.of("src", "test", "java"))) {
            all.map(Path::toString).filter(name -> name.endsWith(".java")).forEach(files::add);
        }
        if (!compiles(tests, files)) {
            throw new IllegalStateException("the tests do not compile");
        }
        Breaks breaks = new Breaks(Files.readString(MAIN), tests);
        List<Break> all = read(Files.readString(Path.of("src", "test", "breaks.txt")));
        int missed = breaks.tryAll(all);
        remove(tests);
        System.out.println(all.size() + " breaks, " + missed + " that their own test does not notice");
        System.exit(missed > 0 ? 1 : 0);
    }

    private static List<Break> read(String text) {
        List<Break> breaks = new ArrayList<>();
        for (String part : text.split("\n== ")) {
            int end = part.indexOf('\n');
            String[] heading = part.substring(0, end).split(": ", 2);
            for (int at = part.indexOf("<<<<\n"); at >= 0; at = part.indexOf("<<<<\n", at + 1)) {
                int middle = part.indexOf("\n====", at);
                int last = part.indexOf("\n>>>>", middle + 5);
                Break one = new Break();
                one.tests = heading[0].split(" ");
                one.sentence = heading[1];
                one.old = part.substring(at + 5, middle);
                one.broken = part.substring(Math.min(middle + 6, last), last);
                breaks.add(one);
            }
        }
        return breaks;
    }

    private int tryAll(List<Break> all) throws InterruptedException, ExecutionException {
        ExecutorService workers = Executors.newFixedThreadPool(Runtime.getRuntime().availableProcessors());
        List<Future<String>> answers = new ArrayList<>();
        for (Break one : all) {
            answers.add(workers.submit(() -> tryOne(one)));
        }
        int missed = 0;
        for (int i = 0; i < all.size(); i++) {
            String answer = answers.get(i).get();
            if (!answer.isEmpty()) {
                missed++;
                System.out.println(answer + ": " + all.get(i).sentence + "\n" + all.get(i).broken);
            }
        }
        workers.shutdown();
        return missed;
    }

    /** What is wrong with a break; nothing, if its own test notices it. */
    private String tryOne(Break one) throws IOException, InterruptedException {
        int at = source.indexOf(one.old);
        if (at < 0 || source.indexOf(one.old, at + 1) >= 0) {
            return "the class does not have this text once";
        }
        Path directory = Files.createTempDirectory("break");
        try {
            return tryOne(one, at, directory);
        } finally {
            remove(directory);
        }
    }

    private static void remove(Path directory) throws IOException {
        try (Stream<Path> files = Files.list(directory)) {
            for (Path file : (Iterable<Path>) files::iterator) {
                Files.delete(file);
            }
        }
        Files.delete(directory);
    }

    private String tryOne(Break one, int at, Path directory) throws IOException, InterruptedException {
        Path file = directory.resolve("GlacierCamp.java");
        Files.writeString(file, source.substring(0, at) + one.broken + source.substring(at + one.old.length()));
        if (!compiles(directory, List.of(file.toString()))) {
            return "does not compile";
        }
        for (String test : one.tests) {
            if (notices(directory, test, one.sentence)) {
                return "";
            }
        }
        return "not noticed";
    }

    private boolean notices(Path broken, String test, String sentence) throws IOException, InterruptedException {
        Path told = broken.resolve(test + ".txt");
        String places = broken + System.getProperty("path.separator") + tests;
        Process process = new ProcessBuilder("java", "-cp", places, test).redirectErrorStream(true)
                .redirectOutput(told.toFile()).start();
        if (!process.waitFor(MOST_SECONDS, TimeUnit.SECONDS)) {
            process.destroyForcibly().waitFor();
        }
        for (String line : Files.readString(told, StandardCharsets.ISO_8859_1).split("\n")) {
            if (line.startsWith("WRONG: ") && line.contains("\"" + sentence + "\": ")) {
                return true;
            }
        }
        return false;
    }

    private static boolean compiles(Path directory, List<String> files) {
        List<String> arguments = new ArrayList<>(List.of("-d", directory.toString()));
        arguments.addAll(files);
        ByteArrayOutputStream told = new ByteArrayOutputStream();
        return ToolProvider.getSystemJavaCompiler().run(null, told, told, arguments.toArray(new String[0])) == 0;
    }
}
