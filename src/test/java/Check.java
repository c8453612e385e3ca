import java.nio.charset.StandardCharsets;

/** What all tests use: due answers, due exceptions, and lists as texts. */
final class Check {
    private static int passed;
    private static int failed;

    private Check() {
    }

    static void due(String what, long got, long want) {
        note(got == want, what + " answered " + got + ", due is " + want);
    }

    static void due(String what, double got, double want) {
        note(got == want, what + " answered " + got + ", due is " + want);
    }

    static void due(String what, boolean got, boolean want) {
        note(got == want, what + " answered " + got + ", due is " + want);
    }

    /** The call throws this very class, and the camp is as it was. */
    static void dueThrow(String what, GlacierCamp camp, Class<? extends RuntimeException> want, Runnable call) {
        long before = camp.digest();
        int errorBefore = camp.errorAt();
        String got = "nothing";
        try {
            call.run();
        } catch (RuntimeException e) {
            got = e.getClass().getName();
        }
        note(got.equals(want.getName()), what + " threw " + got + ", due is " + want.getName());
        note(camp.digest() == before && camp.errorAt() == errorBefore, what + " changed something");
    }

    static void note(boolean good, String complaint) {
        if (good) {
            passed++;
        } else {
            failed++;
            System.out.println("WRONG: " + complaint);
        }
    }

    /** Puts a text on the tape behind what is there. */
    static void feed(GlacierCamp camp, String text) {
        feed(camp, text.getBytes(StandardCharsets.ISO_8859_1));
    }

    static void feed(GlacierCamp camp, byte[] bytes) {
        int length = camp.count(14) + bytes.length;
        for (int from = 0; from < bytes.length; from += 20) {
            camp.feed(word(bytes, from), word(bytes, from + 4), word(bytes, from + 8), word(bytes, from + 12),
                    word(bytes, from + 16));
        }
        camp.trim(length);
    }

    private static int word(byte[] bytes, int from) {
        int word = 0;
        for (int i = from; i < from + 4; i++) {
            word = word << 8 | (i < bytes.length ? bytes[i] & 255 : ' ');
        }
        return word;
    }

    static int teach(GlacierCamp camp, String text) {
        feed(camp, text);
        return camp.teach();
    }

    /** A new camp that was taught a list without an error. */
    static GlacierCamp camp(String list) {
        GlacierCamp camp = new GlacierCamp();
        due("teach of " + list, teach(camp, list), 0);
        return camp;
    }

    /** Ends the program, with exit code 1 if anything was wrong. */
    static void end() {
        System.out.println(passed + " passed, " + failed + " failed");
        if (failed > 0) {
            System.exit(1);
        }
    }
}
