/**
 * The boundary cases of promises 1 to 11, and of what the document says of all calls: each sentence that names one has
 * a test of its own, and so has each exception: that it is thrown, and that the call has changed nothing.
 */
public final class TellEdgeTest {
    private static final Class<IndexOutOfBoundsException> OUTSIDE = IndexOutOfBoundsException.class;
    private static final Class<IllegalArgumentException> BAD = IllegalArgumentException.class;
    private static final Class<IllegalStateException> CANNOT = IllegalStateException.class;
    private static final int LEAST = RichCamp.LEAST;
    private static final int MOST = RichCamp.MOST;
    private static final String TWO = "band a height 10 snow 0; band b height 11 snow 0; ";

    public static void main(String[] args) {
        Check.tests(TellEdgeTest::newObject, TellEdgeTest::manyCalls, TellEdgeTest::firstNamed,
                TellEdgeTest::nothingChanged);
        Check.tests(TellEdgeTest::fedBytes, TellEdgeTest::fedLength, TellEdgeTest::fullTape);
        Check.tests(TellEdgeTest::trimmedTape, TellEdgeTest::trimmedLength, TellEdgeTest::trimmedTooFar);
        Check.tests(TellEdgeTest::allAnew, TellEdgeTest::allStays, TellEdgeTest::errors, TellEdgeTest::errorAt);
        Check.tests(TellEdgeTest::countOfAll, TellEdgeTest::countOfFood, TellEdgeTest::countOfIce,
                TellEdgeTest::countOfReadings, TellEdgeTest::countOfFalls, TellEdgeTest::countOfOrders,
                TellEdgeTest::countOfGone, TellEdgeTest::countOfWarmth, TellEdgeTest::countOfBytes,
                TellEdgeTest::countOutside);
        Check.tests(TellEdgeTest::bandAsTold, TellEdgeTest::teamsOfBand, TellEdgeTest::stakesOfBand,
                TellEdgeTest::crevassesOfBand, TellEdgeTest::bandOutside);
        Check.tests(TellEdgeTest::stakeAsTold, TellEdgeTest::standing, TellEdgeTest::latestReading,
                TellEdgeTest::readingsOfStake, TellEdgeTest::stakeOutside);
        Check.tests(TellEdgeTest::crevasseAsTold, TellEdgeTest::known, TellEdgeTest::probed, TellEdgeTest::crossings,
                TellEdgeTest::fallsOfCrevasse, TellEdgeTest::crevasseOutside);
        Check.tests(TellEdgeTest::depotAsTold, TellEdgeTest::depotOutside);
        Check.tests(TellEdgeTest::teamAsTold, TellEdgeTest::hungry, TellEdgeTest::here, TellEdgeTest::readingsOfTeam,
                TellEdgeTest::fallsOfTeam, TellEdgeTest::done, TellEdgeTest::teamOutside);
        Check.end();
    }

    // ---- all calls

    private static void newObject() {
        Check.sentence(1, "Creates a glacier without bands, in the day 0.");
        GlacierCamp camp = new GlacierCamp();
        for (int what = 0; what <= 14; what++) {
            Check.due("count(" + what + ")", camp.count(what), what == 13 ? 10 : 0);
        }
        Check.dueThrow("band", camp, OUTSIDE, () -> camp.band(0, 0));
        Check.dueThrow("stake", camp, OUTSIDE, () -> camp.stake(0, 0));
        Check.dueThrow("crevasse", camp, OUTSIDE, () -> camp.crevasse(0, 0));
        Check.dueThrow("depot", camp, OUTSIDE, () -> camp.depot(0, 0));
        Check.dueThrow("team", camp, OUTSIDE, () -> camp.team(0, 0));
        for (int day = 0; day < 8; day++) {
            Check.due("warmth of day " + day, camp.setWarm(day, 10), 10);
        }
        GlacierCamp other = new GlacierCamp();
        camp.pass(5);
        Check.teach(camp, TWO);
        Check.due("another object has a day of its own", other.count(0), 0);
        Check.due("and bands of its own", other.count(1), 0);
    }

    private static void manyCalls() {
        Check.sentence(0, "An object is used for at most 512 calls after it has been made");
        GlacierCamp camp = new GlacierCamp();
        for (int i = 1; i < 512; i++) {
            camp.pass(60);
        }
        Check.due("behind 511 calls", camp.count(0), 60 * 511);
        GlacierCamp taught = new GlacierCamp();
        for (int i = 0; i < 127; i++) {
            taught.feed(0x62616e64, 0x20612068, 0x65696768, 0x74203133, 0x20736e6f); // band a height 13 sno
            taught.feed(0x77203235, 0x373b2020, 0x0a0a2020, 0x20200a20, 0x2020200a); // w 257;
            Check.due("list " + i, taught.teach(), 0);
            taught.pass(1);
        }
        Check.due("day", taught.count(0), 127);
        Check.due("snow", taught.band(0, 1), 258);
    }

    private static void firstNamed() {
        Check.sentence(0, "If several exceptions apply, the one that is named first is thrown.");
        RichCamp.refused("go: no such team, which cannot go", OUTSIDE, c -> c.go(4, false));
        RichCamp.refused("probe: no such crevasse, and the team is gone", OUTSIDE, c -> c.probe(2, 2));
        RichCamp.refused("probe: no such team, and the crevasse is too far", OUTSIDE, c -> c.probe(4, 1));
        RichCamp.refused("fill: no such team, and too much", OUTSIDE, c -> c.fill(4, 41));
        RichCamp.refused("fill: too much, and the team is gone", BAD, c -> c.fill(2, 41));
        RichCamp.refused("fill: too little, and the sack is full", BAD, c -> c.fill(3, 0));
        RichCamp.refused("stock: no such depot, and too much", OUTSIDE, c -> c.stock(3, 201));
        RichCamp.refused("setWarm: no such day, and too warm", OUTSIDE, c -> c.setWarm(8, 31));
        RichCamp.refused("melt: no such band, and too many days", OUTSIDE, c -> c.melt(3, 61));
        RichCamp.refused("foresee: too many days, and no such number", BAD, c -> c.foresee(61, 13));
        RichCamp.refused("advise: no such team, and too many days", OUTSIDE, c -> c.advise(4, 41));
        RichCamp.refused("advise: too many days, and the team is gone", BAD, c -> c.advise(2, 41));
    }

    private static void nothingChanged() {
        Check.sentence(0, "A method that throws an exception changes nothing.");
        GlacierCamp camp = RichCamp.made();
        for (int what = 0; what < 20; what++) {
            Check.note(throwsOne(camp, what), "call " + what + " has thrown nothing");
        }
        Check.unchanged("so many calls that throw", camp, RichCamp::made);
        Check.refused("a feed too many", () -> fed(2000), CANNOT, c -> c.feed(0, 0, 0, 0, 0));
    }

    private static boolean throwsOne(GlacierCamp camp, int what) {
        try {
            callWrongly(camp, what);
            return false;
        } catch (RuntimeException e) {
            return true;
        }
    }

    private static void callWrongly(GlacierCamp camp, int what) {
        switch (what) {
            case 0 -> camp.trim(24);
            case 1 -> camp.count(15);
            case 2 -> camp.band(3, 0);
            case 3 -> camp.stake(0, 6);
            case 4 -> camp.crevasse(2, 0);
            case 5 -> camp.depot(0, 2);
            case 6 -> camp.team(4, 0);
            case 7 -> camp.go(1, true);
            case 8 -> camp.go(3, false);
            case 9 -> camp.probe(2, 1);
            case 10 -> camp.probe(0, 1);
            case 11 -> camp.fill(2, 1);
            case 12 -> camp.fill(0, 41);
            case 13 -> camp.stock(0, 201);
            case 14 -> camp.setWarm(3, 31);
            case 15 -> camp.pass(61);
            case 16 -> camp.melt(0, 61);
            case 17 -> camp.until(3);
            case 18 -> camp.foresee(60, 6);
            default -> camp.advise(2, 1);
        }
    }

    // ---- feed

    private static void fedBytes() {
        Check.sentence(2, "Appends twenty bytes to the tape: the four bytes of each number, the highest one first.");
        GlacierCamp camp = new GlacierCamp();
        camp.feed(0x62616e64, 0x20612068, 0x65696768, 0x74203133, 0x20736e6f); // band a height 13 sno
        camp.feed(0x77203235, 0x373b2020, 0x0a0a2020, 0x20200a20, 0x2020200a); // w 257;
        Check.due("teach()", camp.teach(), 0);
        Check.due("height", camp.band(0, 0), 13);
        Check.due("snow", camp.band(0, 1), 257);
        int[] others = {160, 138, 255, 128, 0, 127, 13, 187};
        for (int at = 0; at < 20; at++) {
            for (int other : others) {
                byte[] bytes = " \n".repeat(10).getBytes();
                bytes[at] = (byte) other;
                Check.feed(camp, bytes);
                Check.due("a byte " + other + " at " + at, camp.teach(), 1);
                Check.due("errorAt()", camp.errorAt(), at);
            }
            camp = new GlacierCamp();
        }
    }

    private static void fedLength() {
        Check.sentence(2, "Returns the number of bytes of the tape.");
        GlacierCamp camp = new GlacierCamp();
        for (int i = 1; i <= 100; i++) {
            Check.due("feed " + i, camp.feed(LEAST, MOST, 0, -1, 1), 20 * i);
        }
        camp.trim(3);
        Check.due("behind trim(3)", camp.feed(0, 0, 0, 0, 0), 23);
        camp.teach();
        Check.due("behind teach()", camp.feed(0, 0, 0, 0, 0), 20);
    }

    /** A camp with so many bytes on its tape. */
    private static GlacierCamp fed(int bytes) {
        GlacierCamp camp = RichCamp.made();
        camp.trim(0);
        Check.feed(camp, " ".repeat(bytes - 24) + "band x height 2 snow 3; ");
        return camp;
    }

    private static void fullTape() {
        Check.sentence(2, "Throws IllegalStateException if there would be more than 2000");
        Check.due("at 1980", fed(1980).feed(0, 0, 0, 0, 0), 2000);
        Check.due("at 1979", fed(1979).feed(0, 0, 0, 0, 0), 1999);
        for (int bytes : new int[] {1981, 1990, 1999, 2000}) {
            Check.refused("at " + bytes, () -> fed(bytes), CANNOT, camp -> camp.feed(0, 0, 0, 0, 0));
        }
        GlacierCamp camp = fed(2000);
        Check.dueThrow("when it is full", camp, CANNOT, () -> camp.feed(1, 2, 3, 4, 5));
        Check.due("bytes", camp.count(14), 2000);
        camp.trim(1980);
        Check.due("again", camp.feed(0x20202020, 0x20202020, 0x20202020, 0x20202020, 0x20202020), 2000);
    }

    // ---- trim

    private static void trimmedTape() {
        Check.sentence(3, "Shortens the tape to its first bytes.");
        GlacierCamp camp = new GlacierCamp();
        Check.feed(camp, "band a height 3 snow 4; band b height 5 snow 6;");
        Check.due("trim(47)", camp.trim(47), 47);
        Check.due("trim(24)", camp.trim(24), 24);
        Check.due("bytes", camp.count(14), 24);
        Check.feed(camp, "band c height 7 snow 8;");
        Check.due("teach()", camp.teach(), 0);
        Check.due("bands", camp.count(1), 2);
        Check.due("the first one stays", camp.band(0, 0), 3);
        Check.due("what is fed comes behind", camp.band(1, 0), 7);
    }

    private static void trimmedLength() {
        Check.sentence(3, "Returns n.");
        GlacierCamp camp = new GlacierCamp();
        camp.feed(1, 2, 3, 4, 5);
        RichCamp.each(n -> Check.due("trim(" + n + ")", camp.trim(n), n), 20, 19, 4, 4, 1, 0, 0);
    }

    private static void trimmedTooFar() {
        Check.sentence(3, "Throws IllegalArgumentException if n is not 0 to the number of bytes of the tape");
        for (int n : new int[] {-1, 24, 25, 2000, 2001, LEAST, MOST}) {
            RichCamp.refused("trim(" + n + ") of 23", BAD, c -> c.trim(n));
        }
        Check.due("trim(23) of 23", RichCamp.made().trim(23), 23);
        Check.due("trim(0) of 23", RichCamp.made().trim(0), 0);
        Check.refused("trim(-1) of nothing", GlacierCamp::new, BAD, c -> c.trim(-1));
        Check.refused("trim(1) of nothing", GlacierCamp::new, BAD, c -> c.trim(1));
        Check.due("trim(0) of nothing", new GlacierCamp().trim(0), 0);
        Check.due("trim(2000) of 2000", fed(2000).trim(2000), 2000);
        Check.refused("trim(2001) of 2000", () -> fed(2000), BAD, c -> c.trim(2001));
    }

    // ---- teach and errorAt

    private static void allAnew() {
        Check.sentence(4, "Reads the tape as a list, in the place of all that was told before; "
                + "all begins anew, but the day, which stays.");
        String list = TWO + "stake s in a deep 9; crevasse c above a bridge 99; depot d in a food 9; "
                + "team t in a size 2 food 9; fill t with 1 when day = 7;";
        GlacierCamp camp = RichCamp.made();
        camp.pass(10);
        camp.setWarm(0, 30);
        camp.setWarm(6, 30);
        camp.foresee(60, 9);
        camp.trim(0);
        Check.due("teach()", Check.teach(camp, list), 0);
        GlacierCamp fresh = new GlacierCamp();
        fresh.pass(13);
        Check.due("teach() of another one in the same day", Check.teach(fresh, list), 0);
        Check.due("all is the same", Answers.all(camp).equals(Answers.all(fresh)), true);
        Check.due("the day stays", camp.count(0), 23);
        Check.due("an empty tape", camp.teach(), 0);
        Check.due("the day stays", camp.count(0), 23);
        for (int what = 1; what <= 14; what++) {
            Check.due("count(" + what + ")", camp.count(what), what == 13 ? 10 : 0);
        }
    }

    /** Lists with the errors 1 to 5, in this order. */
    private static String[] wrongLists() {
        return new String[] {"day 3 warm 1; @", "band y height 7 snow 8; band y height 8 snow 8;",
            "day 3 warm 1; stake s in a deep 9;", Check.lines("band b# height # snow 1;", 6),
            "day 3 warm 1; band a height 7 snow 301;"};
    }

    private static void allStays() {
        Check.sentence(4, "If it has an error, all stays (but the tape is empty).");
        String[] wrong = wrongLists();
        for (int i = 0; i < wrong.length; i++) {
            GlacierCamp alone = new GlacierCamp();
            Check.due("teach()", Check.teach(alone, wrong[i]), i + 1);
            // So far behind blanks, the error is where the one ahead of it was: that does not tell them apart.
            GlacierCamp camp = RichCamp.made();
            camp.trim(0);
            Check.teach(camp, " ".repeat(RichCamp.ERROR_AT - alone.errorAt()) + wrong[i]);
            Check.due("the tape is empty", camp.count(14), 0);
            Check.unchanged("an error " + (i + 1), camp, TellEdgeTest::withEmptyTape);
            ordersStay(wrong[i]);
        }
    }

    /** A camp that was never taught a wrong list goes on as one that was. */
    private static void ordersStay(String wrong) {
        String list = TWO + "depot d in a food 99; team t in a size 2 food 0; fill t with day + 1; day 4 warm 14;";
        GlacierCamp camp = Check.camp(list);
        GlacierCamp twin = Check.camp(list);
        Check.teach(camp, wrong);
        for (int day = 0; day < 10; day++) {
            Check.due("on day " + day, camp.digest(), twin.digest());
            camp.pass(1);
            twin.pass(1);
        }
    }

    private static GlacierCamp withEmptyTape() {
        GlacierCamp camp = RichCamp.made();
        camp.trim(0);
        return camp;
    }

    private static void errors() {
        Check.sentence(4, "Returns 0, or the error, 1 to 5.");
        String[] wrong = wrongLists();
        for (int i = 0; i < wrong.length; i++) {
            Check.due("error", Check.teach(new GlacierCamp(), wrong[i]), i + 1);
        }
        Check.due("none", Check.teach(new GlacierCamp(), TWO), 0);
        Check.due("none of nothing", new GlacierCamp().teach(), 0);
    }

    private static void errorAt() {
        Check.sentence(5, "Returns the position of the error of the latest teach(); -1 if it had none, or there was "
                + "none.");
        GlacierCamp camp = new GlacierCamp();
        Check.due("there was none", camp.errorAt(), -1);
        camp.feed(0, 0, 0, 0, 0);
        Check.due("there was none, but a feed", camp.errorAt(), -1);
        camp.teach();
        Check.due("at 0", camp.errorAt(), 0);
        Check.due("teach()", Check.teach(camp, "band a height 21 snow 0;"), 5);
        Check.due("at 14", camp.errorAt(), 14);
        Check.feed(camp, "x");
        camp.pass(3);
        Check.due("until the next teach()", camp.errorAt(), 14);
        camp.trim(0);
        Check.due("still", camp.errorAt(), 14);
        Check.due("teach()", Check.teach(camp, TWO), 0);
        Check.due("it had none", camp.errorAt(), -1);
        Check.due("teach()", Check.teach(camp, "band" + " ".repeat(1996)), 1);
        Check.due("at 2000", camp.errorAt(), 2000);
        Check.due("teach()", Check.teach(camp, "day 8 warm 0;"), 5);
        Check.due("at 4", camp.errorAt(), 4);
        Check.due("an empty list", camp.teach(), 0);
        Check.due("it had none", camp.errorAt(), -1);
    }

    // ---- count

    private static void countOfAll() {
        Check.sentence(6, "0 the day, 1 bands, 2 stakes, 3 crevasses, 4 depots, 5 teams, 6 orders");
        String[] lines = {"band b# height # snow 0;", "stake s# in b0 deep 1;", "crevasse c# above b0 bridge 1;",
            "depot d# in b0 food 1;", "team t# in b0 size 2 food 1;", "fill t0 with #;"};
        int[] most = {5, 6, 4, 4, 4, 20};
        StringBuilder list = new StringBuilder();
        for (int i = 0; i < lines.length; i++) {
            list.append(Check.lines(lines[i], most[i]));
        }
        GlacierCamp full = Check.camp(list.toString());
        for (int days = 0; days <= 60; days += 60) {
            Check.due("the day", full.count(0), days);
            for (int i = 0; i < lines.length; i++) {
                Check.due("as many as there can be: " + (1 + i), full.count(1 + i), most[i]);
            }
            full.pass(60);
        }
        full.teach();
        for (int i = 0; i < lines.length; i++) {
            Check.due("none: " + (1 + i), full.count(1 + i), 0);
        }
        Check.due("the day", full.count(0), 120);
    }

    private static void countOfFood() {
        Check.sentence(6, "7 the food of all depots");
        GlacierCamp camp = Check.camp(TWO + "depot d in a food 0; depot e in b food 99; depot f in a food 1;");
        Check.due("of both bands", camp.count(7), 100);
        for (int i = 0; i < 5; i++) {
            camp.stock(0, 200);
        }
        Check.due("999, 99 and 1", camp.count(7), 1099);
        Check.due("none", Check.camp(TWO).count(7), 0);
    }

    private static void countOfIce() {
        Check.sentence(6, "8 the ice that was lost in all bands");
        GlacierCamp camp = Check.camp("band a height 10 snow 1; band b height 11 snow 2; day 0 warm 10; "
                + "day 1 warm 12;");
        camp.pass(1);
        Check.due("none", camp.count(8), 0);
        camp.pass(1);
        Check.due("5 and 1", camp.count(8), 6);
        camp.pass(7);
        Check.due("no less", camp.count(8), 6);
    }

    private static void countOfReadings() {
        Check.sentence(6, "9 readings in all");
        GlacierCamp camp = Check.camp(TWO + "team t in a size 2 food 0; team u in a size 2 food 9; "
                + "stake s in a deep 9;");
        Check.due("none", camp.count(9), 0);
        camp.pass(1);
        Check.due("two", camp.count(9), 2);
        camp.pass(3);
        Check.due("also of the one that is gone", camp.count(9), 6);
    }

    private static void countOfFalls() {
        Check.sentence(6, "10 falls of teams in all");
        GlacierCamp camp = Check.camp(TWO + "crevasse c above a bridge 0; crevasse d above a bridge 0; "
                + "team t in a size 2 food 0; team u in b size 2 food 9;");
        Check.due("none", camp.count(10), 0);
        camp.go(0, true);
        Check.due("one", camp.count(10), 1);
        camp.go(1, false);
        Check.due("of both", camp.count(10), 2);
        camp.pass(3);
        Check.due("also of the one that is gone", camp.count(10), 2);
    }

    private static void countOfOrders() {
        Check.sentence(6, "11 orders that were carried out in all");
        GlacierCamp camp = Check.camp(TWO + "depot d in a food 3; team t in a size 2 food 9; fill t with 1; "
                + "fill t with 1;");
        Check.due("none", camp.count(11), 0);
        camp.pass(1);
        Check.due("two", camp.count(11), 2);
        camp.pass(1);
        Check.due("one more, of the last food", camp.count(11), 3);
        camp.pass(1);
        Check.due("no more", camp.count(11), 3);
    }

    private static void countOfGone() {
        Check.sentence(6, "12 teams that are gone");
        GlacierCamp camp = Check.camp(TWO + "team t in a size 2 food 2; team u in b size 2 food 0; "
                + "team v in b size 2 food 9;");
        camp.pass(2);
        Check.due("hungry for 2 days is not gone", camp.count(12), 0);
        camp.pass(1);
        Check.due("one is gone", camp.count(12), 1);
        Check.due("it is still counted with the teams", camp.count(5), 3);
        camp.pass(2);
        Check.due("two are gone", camp.count(12), 2);
    }

    private static void countOfWarmth() {
        Check.sentence(6, "13 the warmth of this day");
        GlacierCamp camp = Check.camp("day 1 warm 0; day 7 warm 30;");
        int[] due = {10, 0, 10, 10, 10, 10, 10, 30, 10, 0};
        for (int day = 0; day < due.length; day++) {
            Check.due("of day " + day, camp.count(13), due[day]);
            camp.pass(1);
        }
        camp.setWarm(2, 7);
        Check.due("as it is set now", camp.count(13), 7);
    }

    private static void countOfBytes() {
        Check.sentence(6, "14 bytes of the tape");
        GlacierCamp camp = new GlacierCamp();
        Check.due("none", camp.count(14), 0);
        Check.feed(camp, "\u00ff\0 ");
        Check.due("three", camp.count(14), 3);
        camp.feed(0, 0, 0, 0, 0);
        Check.due("23", camp.count(14), 23);
        camp.teach();
        Check.due("none", camp.count(14), 0);
        Check.due("2000", fed(2000).count(14), 2000);
    }

    private static void countOutside() {
        Check.sentence(6, "Throws IndexOutOfBoundsException if what is not 0 to 14");
        for (int what : new int[] {-1, 15, 16, LEAST, MOST}) {
            RichCamp.refused("count(" + what + ")", OUTSIDE, c -> c.count(what));
        }
        for (int what = 0; what <= 14; what++) {
            int asked = what;
            RichCamp.unchanged("count(" + what + ")", c -> c.count(asked));
        }
    }

    // ---- what there is

    private interface Facts {
        int of(GlacierCamp camp, int which, int what);
    }

    /** In a rich camp there are so many of a kind, which tell so many facts each. */
    private static void outside(String name, int many, int facts, Facts call) {
        for (int which : new int[] {-1, many, many + 1, LEAST, MOST, 1 << 29, 1 << 28}) {
            RichCamp.refused(name + "(" + which + ", 0)", OUTSIDE, c -> call.of(c, which, 0));
        }
        for (int what : new int[] {-1, facts, facts + 1, LEAST, MOST}) {
            RichCamp.refused(name + "(0, " + what + ")", OUTSIDE, c -> call.of(c, 0, what));
        }
        RichCamp.refused(name + ", both", OUTSIDE, c -> call.of(c, many, facts));
        for (int which = 0; which < many; which++) {
            int last = which;
            RichCamp.unchanged(name + "(" + which + ", ..)", c -> call.of(c, last, facts - 1));
        }
        Check.refused(name + " of a new one", GlacierCamp::new, OUTSIDE, c -> call.of(c, 0, 0));
    }

    private static void facts(String name, Facts call, GlacierCamp camp, int which, int... due) {
        for (int what = 0; what < due.length; what++) {
            Check.due(name + "(" + which + ", " + what + ")", call.of(camp, which, what), due[what]);
        }
    }

    private static void bandAsTold() {
        Check.sentence(7, "0 its height, 1 its snow, 2 the ice that it lost");
        GlacierCamp camp = Check.camp("band a height 0 snow 300; band b height 9 snow 2; band e height 20 snow 0;");
        facts("band", GlacierCamp::band, camp, 0, 0, 300, 0, 0, 0, 0);
        facts("band", GlacierCamp::band, camp, 1, 9, 2, 0, 0, 0, 0);
        facts("band", GlacierCamp::band, camp, 2, 20, 0, 0, 0, 0, 0);
        camp.pass(1);
        facts("band", GlacierCamp::band, camp, 0, 0, 270, 0);
        facts("band", GlacierCamp::band, camp, 1, 9, 0, 1);
        facts("band", GlacierCamp::band, camp, 2, 20, 5, 0);
    }

    private static void teamsOfBand() {
        Check.sentence(7, "3 teams that are here in it");
        GlacierCamp camp = Check.camp(TWO + "team t in b size 2 food 0; team u in b size 2 food 9; "
                + "team v in a size 2 food 9;");
        Check.due("of a", camp.band(0, 3), 1);
        Check.due("of b", camp.band(1, 3), 2);
        camp.pass(3);
        Check.due("without the one that is gone", camp.band(1, 3), 1);
        camp.go(2, true);
        Check.due("it has left a", camp.band(0, 3), 0);
        Check.due("and come to b", camp.band(1, 3), 2);
    }

    private static void stakesOfBand() {
        Check.sentence(7, "4 stakes in it that stand");
        GlacierCamp camp = Check.camp(TWO + "stake s in a deep 3; stake r in a deep 4; stake q in b deep 1; "
                + "day 0 warm 11;");
        Check.due("both of a", camp.band(0, 4), 2);
        camp.pass(1);
        Check.due("one of a fell", camp.band(0, 4), 1);
        Check.due("the one of b stands", camp.band(1, 4), 1);
    }

    private static void crevassesOfBand() {
        Check.sentence(7, "5 crevasses above it");
        GlacierCamp camp = Check.camp(TWO + "crevasse c above b bridge 0; crevasse d above b bridge 9;");
        Check.due("none", camp.band(0, 5), 0);
        Check.due("two above all", camp.band(1, 5), 2);
    }

    private static void bandOutside() {
        Check.sentence(7, "Throws IndexOutOfBoundsException if there is no such band, or what is not 0 to 5");
        outside("band", 3, 6, GlacierCamp::band);
    }

    private static void stakeAsTold() {
        Check.sentence(8, "0 its band, 1 how deep it is drilled, 2 what it stands out by");
        GlacierCamp camp = Check.camp(TWO + "stake s in b deep 1; stake r in a deep 200; day 0 warm 12;");
        facts("stake", GlacierCamp::stake, camp, 0, 1, 1, 0);
        facts("stake", GlacierCamp::stake, camp, 1, 0, 200, 0);
        camp.pass(1);
        facts("stake", GlacierCamp::stake, camp, 0, 1, 1, 3);
        facts("stake", GlacierCamp::stake, camp, 1, 0, 200, 6);
    }

    private static void standing() {
        Check.sentence(8, "3 1 if it stands, else 0");
        GlacierCamp camp = Check.camp(TWO + "stake s in a deep 1; stake r in b deep 1; day 0 warm 11;");
        Check.due("stands", camp.stake(0, 3), 1);
        camp.pass(1);
        Check.due("lies", camp.stake(0, 3), 0);
        Check.due("stands in b", camp.stake(1, 3), 1);
    }

    private static void latestReading() {
        Check.sentence(8, "4 its latest reading, -1 without one");
        GlacierCamp camp = Check.camp(TWO + "stake s in a deep 1; stake r in b deep 9; team t in a size 2 food 9; "
                + "day 0 warm 11; day 2 warm 12;");
        Check.due("none so far", camp.stake(0, 4), -1);
        camp.pass(1);
        Check.due("fell ahead of the first one", camp.stake(0, 4), -1);
        Check.due("nobody there", camp.stake(1, 4), -1);
        camp.go(0, true);
        camp.pass(1);
        Check.due("a reading of 0", camp.stake(1, 4), 0);
        camp.pass(1);
        Check.due("the latest one", camp.stake(1, 4), 3);
    }

    private static void readingsOfStake() {
        Check.sentence(8, "5 how often it was read");
        GlacierCamp camp = Check.camp(TWO + "stake s in a deep 9; stake r in b deep 9; team t in a size 2 food 9; "
                + "team u in a size 2 food 9;");
        Check.due("never", camp.stake(0, 5), 0);
        camp.pass(1);
        Check.due("by two teams", camp.stake(0, 5), 2);
        Check.due("by none", camp.stake(1, 5), 0);
        camp.go(0, true);
        camp.pass(1);
        Check.due("by one more", camp.stake(0, 5), 3);
        Check.due("by one", camp.stake(1, 5), 1);
    }

    private static void stakeOutside() {
        Check.sentence(8, "Throws IndexOutOfBoundsException if there is no such stake, or what is not 0 to 5");
        outside("stake", 3, 6, GlacierCamp::stake);
    }

    private static void crevasseAsTold() {
        Check.sentence(9, "0 the band above which it lies, 1 its bridge");
        GlacierCamp camp = Check.camp(TWO + "crevasse c above b bridge 0; crevasse d above a bridge 99;");
        facts("crevasse", GlacierCamp::crevasse, camp, 0, 1, 0, 0, -1, 0, 0);
        facts("crevasse", GlacierCamp::crevasse, camp, 1, 0, 99, 0, -1, 0, 0);
    }

    private static void known() {
        Check.sentence(9, "2 1 if it is known, else 0");
        GlacierCamp camp = Check.camp(TWO + "crevasse c above a bridge 20; crevasse d above a bridge 20; "
                + "team t in a size 2 food 9;");
        Check.due("not at first", camp.crevasse(0, 2), 0);
        camp.probe(0, 0);
        for (int day = 0; day < 5; day++) {
            Check.due("on day " + day, camp.crevasse(0, 2), day < 3 ? 1 : 0);
            Check.due("the other one", camp.crevasse(1, 2), 0);
            camp.pass(1);
        }
    }

    private static void probed() {
        Check.sentence(9, "3 the bridge as it was probed the latest time, -1 if it never was");
        GlacierCamp camp = Check.camp(TWO + "crevasse c above a bridge 20; crevasse d above a bridge 40; "
                + "team t in a size 2 food 9; day 0 warm 17; day 1 warm 30;");
        Check.due("never", camp.crevasse(0, 3), -1);
        camp.probe(0, 0);
        Check.due("probed", camp.crevasse(0, 3), 20);
        camp.pass(1);
        Check.due("as it was then", camp.crevasse(0, 3), 20);
        camp.probe(0, 0);
        Check.due("the latest time", camp.crevasse(0, 3), 13);
        camp.pass(4);
        Check.due("also as it is not known any more", camp.crevasse(0, 3), 13);
        camp.probe(0, 0);
        Check.due("0", camp.crevasse(0, 3), 0);
        Check.due("the other one", camp.crevasse(1, 3), -1);
    }

    private static void crossings() {
        Check.sentence(9, "4 how many teams went over it (only those that came to another band)");
        GlacierCamp camp = Check.camp(TWO + "crevasse c above a bridge 40; crevasse d above a bridge 24; "
                + "team t in a size 3 food 9; team u in a size 4 food 9; team v in b size 3 food 9; "
                + "team w in b size 6 food 9;");
        Check.due("none", camp.crevasse(0, 4), 0);
        camp.go(0, true);
        Check.due("t came over c", camp.crevasse(0, 4), 1);
        Check.due("and over d", camp.crevasse(1, 4), 1);
        camp.go(2, false);
        Check.due("v came over c", camp.crevasse(0, 4), 2);
        Check.due("and over d", camp.crevasse(1, 4), 2);
        camp.go(1, true);
        Check.due("u fell behind c, and does not count", camp.crevasse(0, 4), 2);
        Check.due("where it fell it does not count, either", camp.crevasse(1, 4), 2);
        camp.go(3, false);
        Check.due("w fell ahead of c", camp.crevasse(0, 4), 2);
    }

    private static void fallsOfCrevasse() {
        Check.sentence(9, "5 how many fell there");
        GlacierCamp camp = Check.camp(TWO + "crevasse c above a bridge 40; crevasse d above a bridge 24; "
                + "team t in a size 4 food 9; team u in b size 4 food 9;");
        Check.due("none", camp.crevasse(1, 5), 0);
        camp.go(0, true);
        Check.due("t", camp.crevasse(1, 5), 1);
        camp.go(1, false);
        Check.due("u", camp.crevasse(1, 5), 2);
        camp.pass(1);
        camp.go(0, true);
        Check.due("t once more", camp.crevasse(1, 5), 3);
        Check.due("none at c", camp.crevasse(0, 5), 0);
    }

    private static void crevasseOutside() {
        Check.sentence(9, "Throws IndexOutOfBoundsException if there is no such crevasse, or what is not 0 to 5");
        outside("crevasse", 2, 6, GlacierCamp::crevasse);
    }

    private static void depotAsTold() {
        Check.sentence(10, "0 its band, 1 its food");
        GlacierCamp camp = Check.camp(TWO + "depot d in b food 0; depot e in a food 99;");
        facts("depot", GlacierCamp::depot, camp, 0, 1, 0);
        facts("depot", GlacierCamp::depot, camp, 1, 0, 99);
    }

    private static void depotOutside() {
        Check.sentence(10, "Throws IndexOutOfBoundsException if there is no such depot, or what is not 0 or 1");
        outside("depot", 3, 2, GlacierCamp::depot);
    }

    private static void teamAsTold() {
        Check.sentence(11, "0 its size, 1 its sack, 2 its band");
        GlacierCamp camp = Check.camp(TWO + "team t in b size 6 food 40; team u in a size 2 food 0;");
        facts("team", GlacierCamp::team, camp, 0, 6, 40, 1, 0, 1, 0, 0, 0);
        facts("team", GlacierCamp::team, camp, 1, 2, 0, 0, 0, 1, 0, 0, 0);
        camp.pass(3);
        facts("team", GlacierCamp::team, camp, 1, 2, 0, 0);
    }

    private static void hungry() {
        Check.sentence(11, "3 days for which it is hungry");
        GlacierCamp camp = Check.camp(TWO + "team t in a size 2 food 1; depot d in a food 0;");
        int[] due = {0, 0, 1, 2, 0, 1, 2, 3, 3};
        for (int day = 0; day < due.length; day++) {
            Check.due("on day " + day, camp.team(0, 3), due[day]);
            if (day == 3) {
                camp.stock(0, 1);
            }
            camp.pass(1);
        }
    }

    private static void here() {
        Check.sentence(11, "4 1 if it is here, else 0");
        GlacierCamp camp = Check.camp(TWO + "team t in a size 2 food 0; team u in b size 2 food 9;");
        for (int day = 0; day < 6; day++) {
            Check.due("t on day " + day, camp.team(0, 4), day < 3 ? 1 : 0);
            Check.due("u on day " + day, camp.team(1, 4), 1);
            camp.pass(1);
        }
    }

    private static void readingsOfTeam() {
        Check.sentence(11, "5 its readings in all");
        GlacierCamp camp = Check.camp(TWO + "stake s in a deep 9; stake r in a deep 9; team t in a size 2 food 0; "
                + "team u in b size 2 food 9;");
        int[] due = {0, 2, 4, 4, 4};
        for (int day = 0; day < due.length; day++) {
            Check.due("not on the day on which it is gone: " + day, camp.team(0, 5), due[day]);
            Check.due("none of the other band", camp.team(1, 5), 0);
            camp.pass(1);
        }
    }

    private static void fallsOfTeam() {
        Check.sentence(11, "6 its falls in all");
        GlacierCamp camp = Check.camp(TWO + "crevasse c above a bridge 0; team t in a size 2 food 9; "
                + "team u in b size 2 food 9;");
        camp.go(1, false);
        Check.due("one", camp.team(1, 6), 1);
        Check.due("none of t", camp.team(0, 6), 0);
        camp.pass(1);
        camp.go(1, false);
        Check.due("two", camp.team(1, 6), 2);
    }

    private static void done() {
        Check.sentence(11, "7 1 if it has done something in this day, else 0");
        GlacierCamp camp = Check.camp(TWO + "crevasse c above a bridge 16; team t in a size 2 food 9; "
                + "team u in b size 3 food 9; depot d in a food 9;");
        Check.due("nothing", camp.team(0, 7), 0);
        camp.fill(0, 1);
        Check.due("filling is nothing", camp.team(0, 7), 0);
        camp.probe(0, 0);
        Check.due("something", camp.team(0, 7), 1);
        Check.due("not the other one", camp.team(1, 7), 0);
        camp.pass(1);
        Check.due("nothing on the next day", camp.team(0, 7), 0);
        camp.go(0, true);
        Check.due("something", camp.team(0, 7), 1);
        camp.pass(2);
        camp.go(1, false);
        Check.due("it fell, but did something", camp.team(1, 7), 1);
    }

    private static void teamOutside() {
        Check.sentence(11, "Throws IndexOutOfBoundsException if there is no such team, or what is not 0 to 7");
        outside("team", 4, 8, GlacierCamp::team);
    }
}
