/** Promises 1 to 3: a new object, feed and trim. */
public final class TapeTest {
    public static void main(String[] args) {
        newObject();
        feeding();
        trimming();
        order();
        Check.end();
    }

    private static void newObject() {
        GlacierCamp camp = new GlacierCamp();
        for (int what = 0; what <= 14; what++) {
            Check.due("new: count(" + what + ")", camp.count(what), what == 13 ? 10 : 0);
        }
        Check.due("new: errorAt()", camp.errorAt(), -1);
        Check.due("new: mean()", camp.mean(), 0.0);
        Check.dueThrow("new: band(0, 0)", camp, IndexOutOfBoundsException.class, () -> camp.band(0, 0));
    }

    private static void feeding() {
        GlacierCamp camp = new GlacierCamp();
        for (int i = 1; i <= 100; i++) {
            Check.due("feed " + i, camp.feed(0x20202020, -1, 0, 1, 2), 20 * i);
        }
        Check.due("full: count(14)", camp.count(14), 2000);
        Check.dueThrow("feed 101", camp, IllegalStateException.class, () -> camp.feed(0, 0, 0, 0, 0));
        camp.trim(1981);
        Check.dueThrow("feed at 1981", camp, IllegalStateException.class, () -> camp.feed(0, 0, 0, 0, 0));
        camp.trim(1980);
        Check.due("feed at 1980", camp.feed(0, 0, 0, 0, 0), 2000);
        camp.teach();
        Check.due("feed behind teach", camp.feed(0, 0, 0, 0, 0), 20);
    }

    private static void trimming() {
        GlacierCamp camp = new GlacierCamp();
        Check.due("trim(0) of nothing", camp.trim(0), 0);
        Check.dueThrow("trim(1) of nothing", camp, IllegalArgumentException.class, () -> camp.trim(1));
        camp.feed(1, 2, 3, 4, 5);
        Check.dueThrow("trim(-1)", camp, IllegalArgumentException.class, () -> camp.trim(-1));
        Check.dueThrow("trim(21)", camp, IllegalArgumentException.class, () -> camp.trim(21));
        Check.due("trim(20)", camp.trim(20), 20);
        Check.due("trim(7)", camp.trim(7), 7);
        Check.due("count(14)", camp.count(14), 7);
        Check.dueThrow("trim(8)", camp, IllegalArgumentException.class, () -> camp.trim(8));
        Check.due("feed at 7", camp.feed(0, 0, 0, 0, 0), 27);
        Check.dueThrow("trim of the least int", camp, IllegalArgumentException.class,
                () -> camp.trim(Integer.MIN_VALUE));
    }

    /** The highest byte comes first; a byte that is trimmed off is gone, and one fed behind takes its place. */
    private static void order() {
        GlacierCamp camp = new GlacierCamp();
        camp.feed(0x62616e64, 0x20612068, 0x65696768, 0x74203720, 0x736e6f77); // band a height 7 snow
        camp.feed(0x20333b20, 0xff00ff00, -1, -1, -1);
        camp.trim(23);
        Check.due("teach()", camp.teach(), 0);
        Check.due("band(0, 0)", camp.band(0, 0), 7);
        Check.due("band(0, 1)", camp.band(0, 1), 3);
        camp.feed(0x20202020, 0x20202020, 0x20202020, 0x20202020, 0x202020ff);
        Check.due("teach() of 255", camp.teach(), 1);
        Check.due("errorAt()", camp.errorAt(), 19);
    }
}
