import java.nio.charset.StandardCharsets;
import java.util.function.Consumer;
import java.util.function.Supplier;

/** What all tests use: due answers, due exceptions, and lists as texts. */
final class Check {
    private static int passed;
    private static int failed;
    private static int sentences;
    private static String about = "";

    private Check() {
    }

    /** Each one on its own: also behind one that breaks off, the next ones run. */
    static void tests(Runnable... tests) {
        for (Runnable test : tests) {
            try {
                test.run();
            } catch (RuntimeException e) {
                note(false, "broken off by " + e);
            }
            about = "";
        }
    }

    /** What follows tests this sentence of the document, of this promise; of all promises, with 0. */
    static void sentence(int promise, String words) {
        about = (promise > 0 ? "promise " + promise : "all promises") + ", \"" + words + "\": ";
        sentences++;
        note(Document.says(promise, words), "the document does not say so");
    }

    static void due(String what, long got, long want) {
        note(got == want, what + " answered " + got + ", due is " + want);
    }

    static void due(String what, double got, double want) {
        note(got == want, what + " answered " + got + ", due is " + want);
    }

    static void due(String what, boolean got, boolean want) {
        note(got == want, what + " answered " + got + ", due is " + want);
    }

    /** The call throws this very class, and the camp is as it was. */
    static void dueThrow(String what, GlacierCamp camp, Class<? extends RuntimeException> want, Runnable call) {
        long before = camp.digest();
        int errorBefore = camp.errorAt();
        String got = "nothing";
        try {
            call.run();
        } catch (RuntimeException e) {
            got = e.getClass().getName();
        }
        note(got.equals(want.getName()), what + " threw " + got + ", due is " + want.getName());
        note(camp.digest() == before && camp.errorAt() == errorBefore, what + " changed something");
    }

    /** The call throws this very class, and the camp answers all calls behind it as if it had not been made. */
    static void refused(String what, Supplier<GlacierCamp> maker, Class<? extends RuntimeException> want,
            Consumer<GlacierCamp> call) {
        GlacierCamp camp = maker.get();
        String got = "nothing";
        try {
            call.accept(camp);
        } catch (RuntimeException e) {
            got = e.getClass().getName();
        }
        note(got.equals(want.getName()), what + " threw " + got + ", due is " + want.getName());
        unchanged(what, camp, maker);
    }

    /** The camp answers all calls as a new one of that maker does. It is of no use behind this. */
    static void unchanged(String what, GlacierCamp camp, Supplier<GlacierCamp> maker) {
        note(Answers.all(camp).equals(Answers.all(maker.get())), what + " changed something");
    }

    static void note(boolean good, String complaint) {
        if (good) {
            passed++;
        } else {
            failed++;
            System.out.println("WRONG: " + about + complaint);
        }
    }

    /** Puts a text on the tape behind what is there. */
    static void feed(GlacierCamp camp, String text) {
        feed(camp, text.getBytes(StandardCharsets.ISO_8859_1));
    }

    static void feed(GlacierCamp camp, byte[] bytes) {
        int length = camp.count(14) + bytes.length;
        for (int from = 0; from < bytes.length; from += 20) {
            camp.feed(word(bytes, from), word(bytes, from + 4), word(bytes, from + 8), word(bytes, from + 12),
                    word(bytes, from + 16));
        }
        camp.trim(length);
    }

    private static int word(byte[] bytes, int from) {
        int word = 0;
        for (int i = from; i < from + 4; i++) {
            word = word << 8 | (i < bytes.length ? bytes[i] & 255 : ' ');
        }
        return word;
    }

    static int teach(GlacierCamp camp, String text) {
        feed(camp, text);
        return camp.teach();
    }

    /** A new camp that was taught a list without an error. */
    static GlacierCamp camp(String list) {
        GlacierCamp camp = new GlacierCamp();
        due("teach of " + list, teach(camp, list), 0);
        return camp;
    }

    /** The text has this error at the first place where the mark stands; the mark itself is left out. */
    static void error(int error, String marked) {
        int at = marked.indexOf('@');
        error(error, marked.substring(0, at) + marked.substring(at + 1), at);
    }

    static void error(int error, String text, int at) {
        GlacierCamp camp = new GlacierCamp();
        due("teach of " + text, teach(camp, text), error);
        due("errorAt of " + text, camp.errorAt(), at);
        due("tape behind " + text, camp.count(14), 0);
    }

    static void good(String text) {
        GlacierCamp camp = new GlacierCamp();
        due("teach of " + text, teach(camp, text), 0);
        due("errorAt of " + text, camp.errorAt(), -1);
        due("tape behind " + text, camp.count(14), 0);
    }

    /** A line so often, each time with its number, from 0, in the place of #. */
    static String lines(String line, int many) {
        StringBuilder text = new StringBuilder();
        for (int i = 0; i < many; i++) {
            text.append(line.replace("#", String.valueOf(i)));
        }
        return text.toString();
    }

    /** Ends the program, with exit code 1 if anything was wrong. */
    static void end() {
        String of = sentences > 0 ? " of " + sentences + " sentences" : "";
        System.out.println(passed + " passed, " + failed + " failed" + of);
        if (failed > 0) {
            System.exit(1);
        }
    }
}
