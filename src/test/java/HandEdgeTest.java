/**
 * The boundary cases of promises 12 to 16, by hand: each sentence that names one has a test of its own, and so has each
 * exception: that it is thrown, that it is the one named first, and that the call has changed nothing.
 */
public final class HandEdgeTest {
    private static final Class<IndexOutOfBoundsException> OUTSIDE = IndexOutOfBoundsException.class;
    private static final Class<IllegalArgumentException> BAD = IllegalArgumentException.class;
    private static final Class<IllegalStateException> CANNOT = IllegalStateException.class;
    private static final int LEAST = RichCamp.LEAST;
    private static final int MOST = RichCamp.MOST;
    private static final String TWO = "band a height 10 snow 0; band b height 11 snow 0; ";

    public static void main(String[] args) {
        Check.tests(HandEdgeTest::bandThen, HandEdgeTest::noTeamToGo, HandEdgeTest::cannotGo);
        Check.tests(HandEdgeTest::itsBridge, HandEdgeTest::nothingToProbe, HandEdgeTest::cannotProbe);
        Check.tests(HandEdgeTest::asByAnOrder, HandEdgeTest::howMuch, HandEdgeTest::noTeamToFill,
                HandEdgeTest::tooMuchToFill, HandEdgeTest::cannotFill);
        Check.tests(HandEdgeTest::upTo999, HandEdgeTest::foodThen, HandEdgeTest::noDepot, HandEdgeTest::tooMuchToStock);
        Check.tests(HandEdgeTest::warmthBefore, HandEdgeTest::warmthFromNowOn, HandEdgeTest::noSuchDay,
                HandEdgeTest::tooWarm);
        Check.end();
    }

    // ---- go

    private static void bandThen() {
        Check.sentence(12, "Returns the band in which it is then.");
        GlacierCamp camp = Check.camp(TWO + "crevasse c above a bridge 16; team t in a size 2 food 9; "
                + "team u in b size 2 food 9; team v in a size 3 food 9; team w in b size 3 food 9;");
        Check.due("climbs", camp.go(0, true), 1);
        Check.due("descends", camp.go(1, false), 0);
        Check.due("climbs and falls", camp.go(2, true), 0);
        Check.due("descends and falls", camp.go(3, false), 1);
        GlacierCamp far = Check.camp(Check.lines("band b# height # snow 300;", 5) + "team t in b3 size 2 food 9;");
        Check.due("to the highest one", far.go(0, true), 4);
        far.pass(1);
        Check.due("and back", far.go(0, false), 3);
    }

    private static void noTeamToGo() {
        Check.sentence(12, "Throws IndexOutOfBoundsException if there is no such team");
        for (int wrong : new int[] {-1, 4, 5, LEAST, MOST, 1 << 29}) {
            RichCamp.refused("go(" + wrong + ", true)", OUTSIDE, c -> c.go(wrong, true));
            RichCamp.refused("go(" + wrong + ", false)", OUTSIDE, c -> c.go(wrong, false));
        }
        Check.refused("go of a new one", GlacierCamp::new, OUTSIDE, c -> c.go(0, true));
    }

    private static void cannotGo() {
        Check.sentence(12, "Throws IllegalStateException if it cannot go");
        RichCamp.refused("no band below", CANNOT, c -> c.go(0, false));
        RichCamp.refused("up, done", CANNOT, c -> c.go(1, true));
        RichCamp.refused("down, done", CANNOT, c -> c.go(1, false));
        RichCamp.refused("gone", CANNOT, c -> c.go(2, false));
        RichCamp.refused("gone, and no band above", CANNOT, c -> c.go(2, true));
        RichCamp.refused("known and weak", CANNOT, c -> c.go(3, false));
        Check.due("that team can climb", RichCamp.made().go(3, true), 2);
        Check.due("for the other one it is strong", RichCamp.made().go(0, true), 1);
    }

    // ---- probe

    private static void itsBridge() {
        Check.sentence(13, "Returns its bridge.");
        Check.due("0", Check.camp(TWO + "crevasse c above a bridge 0; team t in a size 2 food 9;").probe(0, 0), 0);
        Check.due("99", Check.camp(TWO + "crevasse c above a bridge 99; team t in b size 2 food 9;").probe(0, 0), 99);
    }

    private static void nothingToProbe() {
        Check.sentence(13, "Throws IndexOutOfBoundsException if there is no such team or crevasse");
        for (int wrong : new int[] {-1, 4, LEAST, MOST, 1 << 29}) {
            RichCamp.refused("probe(" + wrong + ", 0)", OUTSIDE, c -> c.probe(wrong, 0));
            RichCamp.refused("probe(0, " + wrong + ")", OUTSIDE, c -> c.probe(0, wrong));
            RichCamp.refused("probe(" + wrong + ", " + wrong + ")", OUTSIDE, c -> c.probe(wrong, wrong));
            RichCamp.refused("done, and crevasse " + wrong, OUTSIDE, c -> c.probe(1, wrong));
            RichCamp.refused("gone, and crevasse " + wrong, OUTSIDE, c -> c.probe(2, wrong));
        }
        RichCamp.refused("probe(0, 2)", OUTSIDE, c -> c.probe(0, 2));
        Check.refused("probe of a new one", GlacierCamp::new, OUTSIDE, c -> c.probe(0, 0));
    }

    private static void cannotProbe() {
        Check.sentence(13, "Throws IllegalStateException if it cannot");
        RichCamp.refused("too far below", CANNOT, c -> c.probe(0, 1));
        RichCamp.refused("done", CANNOT, c -> c.probe(1, 0));
        RichCamp.refused("done, the other one", CANNOT, c -> c.probe(1, 1));
        RichCamp.refused("gone", CANNOT, c -> c.probe(2, 1));
        RichCamp.refused("gone, and too far above", CANNOT, c -> c.probe(2, 0));
        Check.due("that team can", RichCamp.made().probe(3, 1), 54);
    }

    // ---- fill

    private static void asByAnOrder() {
        Check.sentence(14, "Fills the sack of a team, as by an order.");
        Check.due("as much as the sack has room for", RichCamp.made().fill(0, 40), 23);
        Check.due("as much as is asked for", RichCamp.made().fill(0, 22), 22);
        GlacierCamp camp = Check.camp(TWO + "depot d in b food 9; depot e in a food 0; depot f in a food 3; "
                + "depot g in a food 5; team t in a size 2 food 0; team u in b size 2 food 0;");
        camp.fill(0, 40);
        Check.due("no more than the depot has", camp.team(0, 1), 3);
        Check.due("of the first one that has any", camp.depot(2, 1), 0);
        camp.fill(0, 1);
        Check.due("of the next one then", camp.depot(3, 1), 4);
        Check.due("that of the other band stays", camp.depot(0, 1), 9);
        Check.due("it has done nothing", camp.team(0, 7), 0);
        Check.due("but that is no order", camp.count(11), 0);
    }

    private static void howMuch() {
        Check.sentence(14, "Returns how much comes into it.");
        GlacierCamp camp = Check.camp(TWO + "depot d in a food 3; depot e in a food 50; team t in a size 2 food 9;");
        Check.due("no more than the depot has", camp.fill(0, 40), 3);
        Check.due("1", camp.fill(0, 1), 1);
        Check.due("2", camp.fill(0, 2), 2);
        Check.due("room for 25", camp.fill(0, 40), 25);
        Check.due("sack", camp.team(0, 1), 40);
        GlacierCamp empty = Check.camp(TWO + "depot d in a food 99; team t in a size 2 food 0;");
        Check.due("40", empty.fill(0, 40), 40);
    }

    private static void noTeamToFill() {
        Check.sentence(14, "Throws IndexOutOfBoundsException if there is no such team");
        for (int wrong : new int[] {-1, 4, LEAST, MOST, 1 << 29}) {
            RichCamp.refused("fill(" + wrong + ", 1)", OUTSIDE, c -> c.fill(wrong, 1));
            RichCamp.refused("fill(" + wrong + ", 0)", OUTSIDE, c -> c.fill(wrong, 0));
            RichCamp.refused("fill(" + wrong + ", 41)", OUTSIDE, c -> c.fill(wrong, 41));
        }
        Check.refused("fill of a new one", GlacierCamp::new, OUTSIDE, c -> c.fill(0, 0));
    }

    private static void tooMuchToFill() {
        Check.sentence(14, "Throws IllegalArgumentException if many is not 1 to 40");
        for (int many : new int[] {-1, 0, 41, LEAST, MOST}) {
            RichCamp.refused("fill(0, " + many + ")", BAD, c -> c.fill(0, many));
            RichCamp.refused("gone, " + many, BAD, c -> c.fill(2, many));
            RichCamp.refused("full, " + many, BAD, c -> c.fill(3, many));
            Check.refused("no food, " + many, () -> Check.camp(TWO + "team t in a size 2 food 9;"), BAD,
                    c -> c.fill(0, many));
        }
    }

    private static void cannotFill() {
        Check.sentence(14, "Throws IllegalStateException if it is gone, its sack is full, or no depot of its band has "
                + "any food");
        for (int many : new int[] {1, 40}) {
            RichCamp.refused("gone, " + many, CANNOT, c -> c.fill(2, many));
            RichCamp.refused("full, " + many, CANNOT, c -> c.fill(3, many));
            Check.refused("gone, though its band has food, " + many, HandEdgeTest::stockedForTheGone, CANNOT,
                    c -> c.fill(2, many));
        }
        String none = TWO + "depot d in b food 9; depot e in a food 0; team t in a size 2 food 9; "
                + "team u in b size 2 food 39;";
        Check.refused("no food in its band", () -> Check.camp(none), CANNOT, c -> c.fill(0, 1));
        Check.refused("no depot", () -> Check.camp(TWO + "team t in a size 2 food 9;"), CANNOT, c -> c.fill(0, 40));
        Check.due("room for 1", Check.camp(none).fill(1, 40), 1);
    }

    private static GlacierCamp stockedForTheGone() {
        GlacierCamp camp = RichCamp.made();
        camp.stock(2, 9);
        return camp;
    }

    // ---- stock

    private static void upTo999() {
        Check.sentence(15, "Brings food to a depot; what is more than 999 then is lost.");
        GlacierCamp camp = Check.camp(TWO + "depot d in b food 98; depot e in a food 99;");
        for (int i = 1; i <= 4; i++) {
            camp.stock(0, 200);
            Check.due("stock " + i, camp.depot(0, 1), 98 + 200 * i);
        }
        int[] many = {100, 1, 1, 200};
        int[] due = {998, 999, 999, 999};
        for (int i = 0; i < many.length; i++) {
            camp.stock(0, many[i]);
            Check.due(many[i] + " more", camp.depot(0, 1), due[i]);
        }
        Check.due("the other one", camp.depot(1, 1), 99);
    }

    private static void foodThen() {
        Check.sentence(15, "Returns its food then.");
        GlacierCamp camp = Check.camp(TWO + "depot d in b food 0; depot e in a food 99;");
        Check.due("1", camp.stock(0, 1), 1);
        Check.due("100", camp.stock(1, 1), 100);
        for (int i = 1; i <= 4; i++) {
            Check.due("200 more", camp.stock(1, 200), 100 + 200 * i);
        }
        Check.due("no more than 999", camp.stock(1, 200), 999);
    }

    private static void noDepot() {
        Check.sentence(15, "Throws IndexOutOfBoundsException if there is no such depot");
        for (int wrong : new int[] {-1, 3, 4, LEAST, MOST, 1 << 29}) {
            RichCamp.refused("stock(" + wrong + ", 1)", OUTSIDE, c -> c.stock(wrong, 1));
            RichCamp.refused("stock(" + wrong + ", 0)", OUTSIDE, c -> c.stock(wrong, 0));
            RichCamp.refused("stock(" + wrong + ", 201)", OUTSIDE, c -> c.stock(wrong, 201));
        }
        Check.refused("stock of a new one", GlacierCamp::new, OUTSIDE, c -> c.stock(0, 1));
    }

    private static void tooMuchToStock() {
        Check.sentence(15, "Throws IllegalArgumentException if many is not 1 to 200");
        for (int many : new int[] {-1, 0, 201, LEAST, MOST}) {
            RichCamp.refused("stock(0, " + many + ")", BAD, c -> c.stock(0, many));
            RichCamp.refused("stock(2, " + many + ")", BAD, c -> c.stock(2, many));
        }
        Check.due("1", RichCamp.made().stock(2, 1), 1);
        Check.due("200", RichCamp.made().stock(2, 200), 200);
    }

    // ---- setWarm

    private static void warmthBefore() {
        Check.sentence(16, "Returns the one before.");
        GlacierCamp camp = Check.camp("day 0 warm 0; day 7 warm 30;");
        Check.due("of day 0", camp.setWarm(0, 30), 0);
        Check.due("of day 7", camp.setWarm(7, 0), 30);
        Check.due("of day 0 again", camp.setWarm(0, 30), 30);
        Check.due("of day 7 again", camp.setWarm(7, 0), 0);
        Check.due("of day 1", camp.setWarm(1, 0), 10);
    }

    private static void warmthFromNowOn() {
        Check.sentence(16, "its warmth from now on");
        GlacierCamp camp = Check.camp("band a height 10 snow 0;");
        camp.setWarm(0, 30);
        camp.setWarm(1, 0);
        Check.due("of this day", camp.count(13), 30);
        camp.pass(1);
        Check.due("20 were melted by it", camp.band(0, 2), 60);
        Check.due("of the next one", camp.count(13), 0);
        camp.pass(7);
        Check.due("of day 8", camp.count(13), 30);
        camp.pass(1);
        Check.due("of day 9", camp.count(13), 0);
    }

    private static void noSuchDay() {
        Check.sentence(16, "Throws IndexOutOfBoundsException if day is not 0 to 7");
        for (int day : new int[] {-1, 8, 9, LEAST, MOST}) {
            RichCamp.refused("setWarm(" + day + ", 5)", OUTSIDE, c -> c.setWarm(day, 5));
            RichCamp.refused("setWarm(" + day + ", -1)", OUTSIDE, c -> c.setWarm(day, -1));
            RichCamp.refused("setWarm(" + day + ", 31)", OUTSIDE, c -> c.setWarm(day, 31));
        }
        GlacierCamp camp = new GlacierCamp();
        for (int day = 0; day < 8; day++) {
            Check.due("setWarm(" + day + ", 0)", camp.setWarm(day, 0), 10);
        }
    }

    private static void tooWarm() {
        Check.sentence(16, "Throws IllegalArgumentException if warm is not 0 to 30");
        for (int warm : new int[] {-1, 31, 32, LEAST, MOST}) {
            RichCamp.refused("setWarm(0, " + warm + ")", BAD, c -> c.setWarm(0, warm));
            RichCamp.refused("setWarm(7, " + warm + ")", BAD, c -> c.setWarm(7, warm));
        }
        Check.due("setWarm(7, 0)", new GlacierCamp().setWarm(7, 0), 10);
        Check.due("setWarm(7, 30)", new GlacierCamp().setWarm(7, 30), 10);
    }
}
