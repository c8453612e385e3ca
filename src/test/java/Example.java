import java.nio.charset.StandardCharsets;

public final class Example {
    static final String LIST = """
            band low height 2 snow 30; band top height 15 snow 290;
            stake a in low deep 60; crevasse x above low bridge 40; depot hut in low food 50;
            team ann in low size 3 food 10;
            day 0 warm 14;
            probe x by ann when not known x;
            climb ann when sack ann > 3 and known x;
            fill ann with 20 when place ann = 0;
            drill a when not standing a;
            """;

    public static void main(String[] args) {
        GlacierCamp camp = new GlacierCamp();
        feed(camp, LIST);
        int error = camp.teach();
        if (error != 0) {
            System.out.println("error " + error + " at byte " + camp.errorAt());
            return;
        }
        System.out.println("bands: " + camp.count(1) + ", orders: " + camp.count(6));
        System.out.println("the stake falls behind days: " + camp.until(0));
        System.out.println("would come up: " + camp.safe(0, true));
        System.out.println("best by hand: " + camp.advise(0, 10));
        System.out.println("readings in three days: " + camp.pass(3));
        System.out.println("the team's band: " + camp.team(0, 2) + ", its sack: " + camp.team(0, 1));
        try {
            camp.go(0, true);
        } catch (IllegalStateException e) {
            System.out.println("there is no higher band");
        }
    }

    /** Feeds twenty bytes at a time, and cuts off what was fed too much. */
    static void feed(GlacierCamp camp, String list) {
        byte[] bytes = list.getBytes(StandardCharsets.ISO_8859_1);
        int size = camp.count(14) + bytes.length;
        for (int i = 0; i < bytes.length; i += 20) {
            camp.feed(word(bytes, i), word(bytes, i + 4), word(bytes, i + 8), word(bytes, i + 12), word(bytes, i + 16));
        }
        camp.trim(size);
    }

    private static int word(byte[] bytes, int from) {
        int word = 0;
        for (int i = from; i < from + 4; i++) {
            word = word << 8 | (i < bytes.length ? bytes[i] & 255 : 0);
        }
        return word;
    }
}
