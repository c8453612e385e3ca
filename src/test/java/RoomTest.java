import com.sun.management.ThreadMXBean;
import java.lang.management.ManagementFactory;

/** The dearest calls, 512 of each on one object: they make few objects, and none of them throws or hangs. */
public final class RoomTest {
    private static final ThreadMXBean THREADS = (ThreadMXBean) ManagementFactory.getThreadMXBean();

    public static void main(String[] args) {
        // 600,000 objects take at least 16 bytes each. Far less than that is made.
        room("new", 100_000, camp -> new GlacierCamp());
        room("advise", 2_000, camp -> camp.advise(0, 40));
        room("until", 2_000, camp -> camp.until(5));
        room("foresee", 2_000, camp -> camp.foresee(60, 9));
        room("pass", 2_000, camp -> camp.pass(60));
        room("digest", 2_000, camp -> camp.digest());
        room("teach", 2_000_000, camp -> camp.teach());
        Check.end();
    }

    private interface Call {
        void on(GlacierCamp camp);
    }

    private static void room(String name, long mostBytes, Call call) {
        GlacierCamp camp = Check.camp(list());
        int calls = name.equals("new") ? 1 : 512;
        call.on(Check.camp(list())); // loads what the first call loads
        long thread = Thread.currentThread().getId();
        long before = THREADS.getThreadAllocatedBytes(thread);
        for (int i = 0; i < calls; i++) {
            call.on(camp);
        }
        long made = THREADS.getThreadAllocatedBytes(thread) - before;
        Check.note(made <= mostBytes, name + " made " + made + " bytes");
    }

    /** As many of all kinds as there can be; teams that stay, as they go and eat. */
    private static String list() {
        StringBuilder list = new StringBuilder();
        for (int i = 0; i < 5; i++) {
            list.append("band b").append(i).append(" height ").append(8 + i).append(" snow 99;");
        }
        for (int i = 0; i < 6; i++) {
            list.append("stake s").append(i).append(" in b").append(i % 5).append(" deep 200;");
        }
        for (int i = 0; i < 4; i++) {
            list.append("crevasse c").append(i).append(" above b").append(i).append(" bridge 99;");
            list.append("depot d").append(i).append(" in b").append(i).append(" food 99;");
            list.append("team t").append(i).append(" in b").append(i).append(" size 2 food 40;");
        }
        for (int i = 0; i < 20; i++) {
            list.append("fill t").append(i % 4).append(" with day*2-9;");
        }
        return list.toString();
    }
}
