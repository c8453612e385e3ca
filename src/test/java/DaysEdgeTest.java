/**
 * The boundary cases of promises 17 to 24, days and what would be: each sentence that names one has a test of its own,
 * and so has each exception: that it is thrown, that it is the one named first, and that the call has changed nothing.
 */
public final class DaysEdgeTest {
    private static final Class<IndexOutOfBoundsException> OUTSIDE = IndexOutOfBoundsException.class;
    private static final Class<IllegalArgumentException> BAD = IllegalArgumentException.class;
    private static final Class<IllegalStateException> CANNOT = IllegalStateException.class;
    private static final int LEAST = RichCamp.LEAST;
    private static final int MOST = RichCamp.MOST;
    private static final String TWO = "band a height 10 snow 0; band b height 11 snow 0; ";
    private static final String THREE = "band z height 9 snow 0; " + TWO + "team t in a size 2 food 40; ";

    public static void main(String[] args) {
        Check.tests(DaysEdgeTest::howManyReadings, DaysEdgeTest::tooManyToPass);
        Check.tests(DaysEdgeTest::whatMelts, DaysEdgeTest::fromThisDayOn, DaysEdgeTest::noBandToMelt,
                DaysEdgeTest::tooManyToMelt);
        Check.tests(DaysEdgeTest::atMost99, DaysEdgeTest::forTheFirstTime, DaysEdgeTest::noStake);
        Check.tests(DaysEdgeTest::foreseen, DaysEdgeTest::tooManyToForesee, DaysEdgeTest::notForeseen);
        Check.tests(DaysEdgeTest::wouldNotFall, DaysEdgeTest::noTeamToBeSafe);
        Check.tests(DaysEdgeTest::smallestNumber, DaysEdgeTest::whatItCannotDo, DaysEdgeTest::mostReadings,
                DaysEdgeTest::noTeamToAdvise, DaysEdgeTest::tooManyToAdvise, DaysEdgeTest::goneToAdvise);
        Check.tests(DaysEdgeTest::mean, DaysEdgeTest::wrappingDigest, DaysEdgeTest::allOfTheDigest);
        Check.end();
    }

    // ---- pass

    private static void howManyReadings() {
        Check.sentence(17, "Returns how many readings are made in them.");
        GlacierCamp camp = Check.camp(TWO + "stake s in a deep 99; stake r in b deep 99; team t in a size 2 food 40; "
                + "team u in b size 2 food 2;");
        Check.due("1 day", camp.pass(1), 2);
        Check.due("3 days", camp.pass(3), 6);
        Check.due("u is gone on the first of them", camp.pass(60), 38);
        Check.due("nobody is here", camp.pass(60), 0);
        Check.due("days", camp.count(0), 124);
        Check.due("nothing at all", new GlacierCamp().pass(1), 0);
    }

    private static void tooManyToPass() {
        Check.sentence(17, "Throws IllegalArgumentException if days is not 1 to 60");
        for (int days : new int[] {-1, 0, 61, 62, LEAST, MOST}) {
            RichCamp.refused("pass(" + days + ")", BAD, c -> c.pass(days));
            Check.refused("pass(" + days + ") of a new one", GlacierCamp::new, BAD, c -> c.pass(days));
        }
        GlacierCamp camp = new GlacierCamp();
        camp.pass(60);
        camp.pass(1);
        Check.due("60 days and 1", camp.count(0), 61);
    }

    // ---- melt

    private static void whatMelts() {
        Check.sentence(18, "3 times the warmth at it, of each day on which that is greater than 0");
        GlacierCamp camp = Check.camp("band a height 10 snow 0; band b height 20 snow 300; day 0 warm 11; "
                + "day 1 warm 9; "
                + "day 2 warm 0; day 4 warm 30; day 7 warm 21;");
        int[] a = {3, 3, 3, 3, 63, 63, 63, 96, 99, 99};
        int[] b = {0, 0, 0, 0, 30, 30, 30, 33, 33, 33};
        for (int i = 0; i < a.length; i++) {
            Check.due("melt(0, " + (i + 1) + ")", camp.melt(0, i + 1), a[i]);
            Check.due("melt(1, " + (i + 1) + ")", camp.melt(1, i + 1), b[i]);
        }
        Check.due("melt(0, 60)", camp.melt(0, 60), 7 * 96 + 3);
        Check.due("melt(1, 60)", camp.melt(1, 60), 7 * 33);
        GlacierCamp hot = Check.camp("band a height 0 snow 5;" + Check.lines("day # warm 30;", 8));
        Check.due("the most there can be", hot.melt(0, 60), 60 * 90);
        RichCamp.unchanged("melt(0, 60)", c -> c.melt(0, 60));
    }

    private static void fromThisDayOn() {
        Check.sentence(18, "how much will melt in it in so many days from this one on");
        GlacierCamp camp = Check.camp("band a height 10 snow 0; day 0 warm 11; day 1 warm 0; day 6 warm 20; "
                + "day 7 warm 15;");
        camp.pass(6);
        Check.due("of day 6", camp.melt(0, 1), 30);
        camp.pass(1);
        Check.due("of day 7", camp.melt(0, 1), 15);
        Check.due("of days 7 and 8", camp.melt(0, 2), 18);
        camp.pass(1);
        Check.due("of day 8", camp.melt(0, 1), 3);
        Check.due("of 8 days", camp.melt(0, 8), 48);
        camp.setWarm(0, 10);
        Check.due("as it is set now", camp.melt(0, 1), 0);
    }

    private static void noBandToMelt() {
        Check.sentence(18, "Throws IndexOutOfBoundsException if there is no such band");
        for (int wrong : new int[] {-1, 3, LEAST, MOST, 1 << 29}) {
            for (int days : new int[] {1, 60, 0, 61}) {
                RichCamp.refused("melt(" + wrong + ", " + days + ")", OUTSIDE, c -> c.melt(wrong, days));
            }
        }
        Check.refused("melt of a new one", GlacierCamp::new, OUTSIDE, c -> c.melt(0, 1));
    }

    private static void tooManyToMelt() {
        Check.sentence(18, "Throws IllegalArgumentException if days is not 1 to 60");
        for (int days : new int[] {-1, 0, 61, LEAST, MOST}) {
            RichCamp.refused("melt(0, " + days + ")", BAD, c -> c.melt(0, days));
            RichCamp.refused("melt(2, " + days + ")", BAD, c -> c.melt(2, days));
        }
    }

    // ---- until

    /** A camp in which only day 2 of the week is warm, so that 3 melt in it: on days 2, 10, .. 90, 98. */
    private static GlacierCamp slow(int deep) {
        return Check.camp("band a height 0 snow 0; stake s in a deep " + deep + "; day 0 warm 0; day 1 warm 0; "
                + "day 2 warm 1; day 3 warm 0; day 4 warm 0; day 5 warm 0; day 6 warm 0; day 7 warm 0;");
    }

    private static void atMost99() {
        Check.sentence(19, "0 if it lies now, at most 99; -1 if it does not by then");
        Check.due("behind day 2", slow(1).until(0), 3);
        Check.due("as much as it is deep", slow(3).until(0), 3);
        Check.due("one more", slow(4).until(0), 11);
        Check.due("behind day 98", slow(39).until(0), 99);
        Check.due("behind day 98", slow(37).until(0), 99);
        Check.due("behind day 90", slow(36).until(0), 91);
        Check.due("behind day 106", slow(40).until(0), -1);
        GlacierCamp camp = slow(40);
        camp.pass(7);
        Check.due("100 days from day 7", camp.until(0), -1);
        camp.pass(1);
        Check.due("99 days from day 8", camp.until(0), 99);
        GlacierCamp lies = slow(3);
        lies.pass(2);
        Check.due("on the day on which it falls", lies.until(0), 1);
        lies.pass(1);
        Check.due("lies", lies.until(0), 0);
    }

    private static void forTheFirstTime() {
        Check.sentence(19, "Returns behind how many days it lies for the first time, if nothing is done by hand");
        GlacierCamp camp = Check.camp("band a height 9 snow 0; stake s in a deep 3; stake r in a deep 6; "
                + "team t in a size 2 food 40; drill s when day > 0;");
        Check.due("the first time", camp.until(0), 1);
        Check.due("the other one", camp.until(1), 2);
        camp.setWarm(1, 9);
        camp.pass(1);
        Check.due("it lies now, though it will be drilled", camp.until(0), 0);
        camp.pass(1);
        Check.due("drilled, it stands", camp.until(0), 1);
        GlacierCamp cold = Check.camp("band a height 9 snow 0; stake s in a deep 1; day 0 warm 0; day 1 warm 0;");
        Check.due("on the first warm day", cold.until(0), 3);
        RichCamp.unchanged("until(0)", c -> c.until(0));
        RichCamp.unchanged("until(1)", c -> c.until(1));
    }

    private static void noStake() {
        Check.sentence(19, "Throws IndexOutOfBoundsException if there is no such stake");
        for (int wrong : new int[] {-1, 3, 4, LEAST, MOST, 1 << 29}) {
            RichCamp.refused("until(" + wrong + ")", OUTSIDE, c -> c.until(wrong));
        }
        Check.refused("until(0) of a new one", GlacierCamp::new, OUTSIDE, c -> c.until(0));
    }

    // ---- foresee

    private static void foreseen() {
        Check.sentence(20, "Returns this, behind so many days, if nothing is done by hand (nothing is changed).");
        for (int days : new int[] {1, 2, 3, 59, 60}) {
            for (int what = 7; what <= 12; what++) {
                GlacierCamp camp = RichCamp.made();
                int before = camp.foresee(days, what);
                camp.pass(days);
                Check.due("foresee(" + days + ", " + what + ")", before, camp.count(what));
            }
        }
        for (int what = 7; what <= 12; what++) {
            int asked = what;
            RichCamp.unchanged("foresee(60, " + what + ")", c -> c.foresee(60, asked));
        }
    }

    private static void tooManyToForesee() {
        Check.sentence(20, "Throws IllegalArgumentException if days is not 1 to 60");
        for (int days : new int[] {-1, 0, 61, LEAST, MOST}) {
            for (int what : new int[] {7, 12, 6, 13, LEAST}) {
                RichCamp.refused("foresee(" + days + ", " + what + ")", BAD, c -> c.foresee(days, what));
            }
        }
    }

    private static void notForeseen() {
        Check.sentence(20, "Throws IndexOutOfBoundsException if what is not 7 to 12");
        for (int what : new int[] {-1, 0, 6, 13, 14, LEAST, MOST}) {
            RichCamp.refused("foresee(1, " + what + ")", OUTSIDE, c -> c.foresee(1, what));
            RichCamp.refused("foresee(60, " + what + ")", OUTSIDE, c -> c.foresee(60, what));
        }
    }

    // ---- safe

    private static void wouldNotFall() {
        Check.sentence(21, "Returns whether it can go, and would not fall.");
        for (int size = 2; size <= 6; size++) {
            overBridges(size, 0, 0, true);
            overBridges(size, 1, 0, false);
            overBridges(size, 0, 1, false);
            overBridges(size, 1, 1, false);
        }
        Check.due("no band above", Check.camp(TWO + "team t in b size 2 food 9;").safe(0, true), false);
        Check.due("nothing on its way", Check.camp(TWO + "team t in b size 2 food 9;").safe(0, false), true);
        Check.due("gone", RichCamp.made().safe(2, false), false);
        RichCamp.unchanged("safe(0, true)", c -> c.safe(0, true));
        RichCamp.unchanged("safe(3, false)", c -> c.safe(3, false));
    }

    /** One team up and one down, over two bridges that lack so much. */
    private static void overBridges(int size, int lack, int otherLack, boolean due) {
        GlacierCamp camp = Check.camp(TWO + "band e height 12 snow 0; crevasse c above a bridge " + (8 * size - lack)
                + "; crevasse d above a bridge " + (8 * size - otherLack) + "; crevasse f above b bridge 0; "
                + "team t in a size " + size + " food 9; team u in b size " + size + " food 9;");
        String what = " of " + size + ", bridges lack " + lack + " and " + otherLack;
        Check.due("up" + what, camp.safe(0, true), due);
        Check.due("down" + what, camp.safe(1, false), due);
        Check.due("up over one that bears nobody", camp.safe(1, true), false);
        Check.due("no band below", camp.safe(0, false), false);
        camp.probe(1, 0);
        Check.due("known: up" + what, camp.safe(0, true), due);
        Check.due("done", camp.safe(1, false), false);
    }

    private static void noTeamToBeSafe() {
        Check.sentence(21, "Throws IndexOutOfBoundsException if there is no such team");
        for (int team : new int[] {-1, 4, 5, LEAST, MOST, 1 << 29}) {
            RichCamp.refused("safe(" + team + ", true)", OUTSIDE, c -> c.safe(team, true));
            RichCamp.refused("safe(" + team + ", false)", OUTSIDE, c -> c.safe(team, false));
        }
        Check.refused("safe of a new one", GlacierCamp::new, OUTSIDE, c -> c.safe(0, true));
    }

    // ---- advise

    private static void advice(String stakes, int due) {
        Check.due(stakes, Check.camp(THREE + stakes).advise(0, 1), due);
    }

    private static void smallestNumber() {
        Check.sentence(22, "Returns 0 nothing, 1 climb, 2 descend, of several the smallest number");
        Check.due("without a stake", Check.camp(THREE).advise(0, 40), 0);
        advice("stake s in z deep 99; stake r in a deep 9; stake q in b deep 9;", 0);
        advice("stake s in z deep 99; stake r in a deep 9;", 0);
        advice("stake s in b deep 99; stake r in a deep 9;", 0);
        advice("stake s in b deep 99; stake r in z deep 99;", 1);
        advice("stake s in b deep 99;", 1);
        advice("stake s in z deep 99;", 2);
        advice("stake s in z deep 99; stake r in z deep 99; stake q in b deep 9;", 2);
        advice("stake s in a deep 99; stake r in z deep 99; stake q in b deep 9; stake p in b deep 9;", 1);
    }

    private static void whatItCannotDo() {
        Check.sentence(22, "what it cannot do does not count (nothing is changed)");
        Check.due("no band below", Check.camp(TWO + "team t in a size 2 food 9; stake s in b deep 9;").advise(0, 1), 1);
        Check.due("no band above", Check.camp(TWO + "team t in b size 2 food 9; stake s in a deep 9;").advise(0, 1), 2);
        GlacierCamp one = Check.camp("band a height 10 snow 0; team t in a size 2 food 9; stake s in a deep 9;");
        Check.due("no other band", one.advise(0, 40), 0);
        GlacierCamp done = Check.camp(THREE + "crevasse c above a bridge 99; stake s in z deep 99;");
        done.probe(0, 0);
        Check.due("it has done something", done.advise(0, 1), 0);
        GlacierCamp known = Check.camp(THREE + "crevasse c above a bridge 15; stake s in b deep 99; "
                + "team u in a size 2 food 9;");
        known.probe(1, 0);
        Check.due("known and weak", known.advise(0, 40), 0);
        RichCamp.unchanged("advise(0, 40)", c -> c.advise(0, 40));
        RichCamp.unchanged("advise(1, 1)", c -> c.advise(1, 1));
    }

    private static void mostReadings() {
        Check.sentence(22, "(it may fall by that), so that it makes the most readings itself in so many days");
        String weak = THREE + "crevasse c above a bridge 15; stake s in a deep 99; ";
        Check.due("it would fall, by hand or by the order",
                Check.camp(weak + "climb t when bridge c > 0 and day = 0;").advise(0, 3), 0);
        Check.due("a fall keeps it where it reads", Check.camp(weak + "descend t when day = 0;").advise(0, 1), 1);
        String later = THREE + "stake s in b deep 99; stake r in a deep 99; stake q in a deep 99; "
                + "climb t when day = 3;";
        Check.due("2 a day for 3 days, then 1: 11, 8 or 10", Check.camp(later).advise(0, 8), 0);
        Check.due("12, 9 or 12", Check.camp(later).advise(0, 9), 0);
        Check.due("13, 10 or 14", Check.camp(later).advise(0, 10), 2);
        String others = THREE + "stake s in z deep 99; stake r in z deep 99; stake q in b deep 99; "
                + "stake p in a deep 99; team u in z size 2 food 40; team v in z size 2 food 40; "
                + "climb u when place t = 0; climb v when place t = 0;";
        Check.due("only its own readings, though all together make less", Check.camp(others).advise(0, 9), 2);
    }

    private static void noTeamToAdvise() {
        Check.sentence(22, "Throws IndexOutOfBoundsException if there is no such team");
        for (int team : new int[] {-1, 4, LEAST, MOST, 1 << 29}) {
            for (int days : new int[] {1, 40, 0, 41}) {
                RichCamp.refused("advise(" + team + ", " + days + ")", OUTSIDE, c -> c.advise(team, days));
            }
        }
        Check.refused("advise of a new one", GlacierCamp::new, OUTSIDE, c -> c.advise(0, 0));
    }

    private static void tooManyToAdvise() {
        Check.sentence(22, "Throws IllegalArgumentException if days is not 1 to 40");
        for (int days : new int[] {-1, 0, 41, 60, LEAST, MOST}) {
            RichCamp.refused("advise(0, " + days + ")", BAD, c -> c.advise(0, days));
            RichCamp.refused("gone, " + days, BAD, c -> c.advise(2, days));
        }
        Check.due("1 day", RichCamp.made().advise(0, 1), 1);
        Check.due("40 days", RichCamp.made().advise(0, 40), 1);
    }

    private static void goneToAdvise() {
        Check.sentence(22, "Throws IllegalStateException if it is gone");
        RichCamp.refused("gone, 1 day", CANNOT, c -> c.advise(2, 1));
        RichCamp.refused("gone, 40 days", CANNOT, c -> c.advise(2, 40));
        GlacierCamp hungry = Check.camp(TWO + "team t in a size 2 food 0;");
        hungry.pass(2);
        Check.due("hungry for 2 days", hungry.advise(0, 1), 0);
    }

    // ---- mean and digest

    private static void mean() {
        Check.sentence(23, "Returns the mean snow of all bands; 0 without any.");
        Check.due("without any", new GlacierCamp().mean(), 0.0);
        Check.due("of a list without any", Check.camp("day 0 warm 3;").mean(), 0.0);
        Check.due("without snow", Check.camp(TWO).mean(), 0.0);
        Check.due("one", Check.camp("band a height 0 snow 299;").mean(), 299.0);
        Check.due("two", Check.camp("band a height 0 snow 0; band b height 1 snow 1;").mean(), 0.5);
        Check.due("three", Check.camp(Check.lines("band b# height # snow 10#;", 3)).mean(), 101.0);
        String five = Check.lines("band b# height # snow 300;", 4) + "band e height 9 snow 299;";
        Check.due("five", Check.camp(five).mean(), 1499.0 / 5);
        String third = "band a height 0 snow 1; band b height 1 snow 0; band c height 2 snow 0;";
        Check.due("a third", Check.camp(third).mean(), 1.0 / 3);
        RichCamp.unchanged("mean()", c -> c.mean());
    }

    private static void wrappingDigest() {
        Check.sentence(24, "A number d starts with 907; for each of the following numbers x, d becomes d * 31 + x, "
                + "which wraps around as a 64-bit integer");
        GlacierCamp camp = new GlacierCamp();
        boolean negative = false;
        for (int day = 0; day < 60; day++) {
            long d = 907 * 31L + day;
            for (int what = 1; what <= 14; what++) {
                d = d * 31 + (what == 13 ? 10 : 0);
            }
            Check.due("on day " + day, camp.digest(), d);
            negative = negative || d < 0;
            camp.pass(1);
        }
        Check.note(negative, "no digest has wrapped around");
    }

    private interface Facts {
        int of(GlacierCamp camp, int which, int what);
    }

    private static void allOfTheDigest() {
        Check.sentence(24, "what count() tells; for each band what band() tells; for each stake what stake() tells; "
                + "for each crevasse what crevasse() tells; for each depot what depot() tells; "
                + "for each team what team() tells (all in their order)");
        GlacierCamp camp = RichCamp.made();
        camp.go(0, true);
        Check.due("of a rich one", camp.digest(), digestOf(camp));
        for (int i = 0; i < 20; i++) {
            camp.pass(1);
            Check.due("later", camp.digest(), digestOf(camp));
        }
        RichCamp.unchanged("digest()", c -> c.digest());
    }

    private static long digestOf(GlacierCamp camp) {
        long d = 907;
        for (int what = 0; what <= 14; what++) {
            d = d * 31 + camp.count(what);
        }
        Facts[] kinds = {GlacierCamp::band, GlacierCamp::stake, GlacierCamp::crevasse, GlacierCamp::depot,
            GlacierCamp::team};
        int[] facts = {6, 6, 6, 2, 8};
        for (int kind = 0; kind < kinds.length; kind++) {
            for (int which = 0; which < camp.count(1 + kind); which++) {
                for (int what = 0; what < facts[kind]; what++) {
                    d = d * 31 + kinds[kind].of(camp, which, what);
                }
            }
        }
        return d;
    }
}
