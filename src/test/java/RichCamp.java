import java.util.function.Consumer;
import java.util.function.IntConsumer;

/** A camp in which everything is in some state of its own, to see what a call changes. */
final class RichCamp {
    /** Where the error of its latest teach() was. */
    static final int ERROR_AT = 200;
    static final int LEAST = Integer.MIN_VALUE;
    static final int MOST = Integer.MAX_VALUE;

    private RichCamp() {
    }

    /**
     * It is day 3. There are three bands; stakes of which the first lies; crevasses of which the first is known, and
     * too weak for team 3 only; depots of which the last is empty. Team 0 is in band 0; team 1, in band 1, has done
     * something; team 2, in band 2, is gone; team 3, in band 1, is full. 23 bytes stand on the tape.
     */
    static GlacierCamp made() {
        GlacierCamp camp = Check.camp("band a height 4 snow 20; band b height 9 snow 150; band e height 14 snow 290; "
                + "stake s in a deep 40; stake r in b deep 30; stake q in e deep 99; crevasse c above a bridge 60; "
                + "crevasse f above b bridge 60; depot d in a food 50; depot g in b food 60; depot h in e food 0; "
                + "team t in a size 2 food 20; team u in b size 3 food 7; team v in e size 2 food 0; "
                + "team w in b size 6 food 40; day 2 warm 13; day 5 warm 3; climb t when day = 6; "
                + "descend u when day = 7; fill u with 3 when sack u < 5; drill r when day = 1; "
                + "probe c by t when known c and day = 5;");
        camp.pass(3);
        camp.probe(1, 0);
        camp.fill(3, 9);
        String wrong = "band z height 3 snow 4; ";
        Check.due("teach with an error", Check.teach(camp, wrong + " ".repeat(ERROR_AT - wrong.length()) + "@"), 1);
        Check.feed(camp, "band y height 7 snow 8;");
        return camp;
    }

    /** The call throws this very exception, and has changed nothing. */
    static void refused(String what, Class<? extends RuntimeException> want, Consumer<GlacierCamp> call) {
        Check.refused(what, RichCamp::made, want, call);
    }

    /** The call changes nothing. */
    static void unchanged(String what, Consumer<GlacierCamp> call) {
        GlacierCamp camp = made();
        call.accept(camp);
        Check.unchanged(what, camp, RichCamp::made);
    }

    static void each(IntConsumer test, int... numbers) {
        for (int number : numbers) {
            test.accept(number);
        }
    }
}
