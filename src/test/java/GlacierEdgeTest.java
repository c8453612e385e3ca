/**
 * The boundary cases of the glacier: each sentence of the document's part "2. The glacier" that names one has a test
 * of its own here. Most are of promise 17 (pass), those of what a team does of 12 to 14.
 */
public final class GlacierEdgeTest {
    private static final Class<IllegalStateException> CANNOT = IllegalStateException.class;
    private static final String TWO = "band a height 10 snow 0; band b height 11 snow 0; ";

    public static void main(String[] args) {
        Check.tests(GlacierEdgeTest::time);
        bands();
        stakes();
        crevasses();
        teams();
        going();
        falling();
        Check.tests(GlacierEdgeTest::probing, GlacierEdgeTest::filling, GlacierEdgeTest::drilling);
        orders();
        eating();
        Check.tests(GlacierEdgeTest::readings, GlacierEdgeTest::endOfDay);
        formulas();
        Check.end();
    }

    /** The camp of this list, so many days later. */
    private static GlacierCamp camp(String list, int days) {
        GlacierCamp camp = Check.camp(list);
        for (int i = 0; i < days; i++) {
            camp.pass(1);
        }
        return camp;
    }

    // ---- time

    private static void time() {
        Check.sentence(17, "Time is told in days, from 0; the day of the week is the remainder by 8.");
        GlacierCamp camp = Check.camp("day 0 warm 1; day 7 warm 8; day 1 warm 2; band a height 20 snow 0; "
                + "team t in a size 2 food 40; climb t when 1 = 2; fill t with day when day = 7;");
        Check.due("day 0", camp.count(0), 0);
        Check.due("warmth of day 0", camp.count(13), 1);
        camp.pass(7);
        Check.due("day 7", camp.count(0), 7);
        Check.due("warmth of day 7", camp.count(13), 8);
        camp.pass(1);
        Check.due("day 8", camp.count(0), 8);
        Check.due("warmth of day 8", camp.count(13), 1);
        camp.pass(1);
        Check.due("warmth of day 9", camp.count(13), 2);
        camp.pass(54);
        Check.due("day 63", camp.count(0), 63);
        Check.due("warmth of day 63", camp.count(13), 8);
        camp.pass(1);
        Check.due("warmth of day 64", camp.count(13), 1);
        camp.pass(1);
        Check.due("list", Check.teach(camp, "band a height 20 snow 0; team t in a size 2 food 0; "
                + "depot d in a food 99; fill t with day when day = 2 and here t;"), 0);
        camp.pass(2);
        Check.due("on day 66", camp.count(11), 1);
        Check.due("2, of which 1 is eaten", camp.team(0, 1), 1);
        camp.pass(8);
        Check.due("on day 74", camp.count(11), 2);
    }

    // ---- bands

    private static void bands() {
        Check.tests(GlacierEdgeTest::bandsAtFirst, GlacierEdgeTest::warmths, GlacierEdgeTest::melting,
                GlacierEdgeTest::snowing);
    }

    private static void bandsAtFirst() {
        Check.sentence(7, "a band has snow, 0 to 300, and has lost so much ice, 0 at first");
        GlacierCamp camp = Check.camp("band a height 0 snow 0; band b height 20 snow 300;");
        Check.due("snow 0", camp.band(0, 1), 0);
        Check.due("snow 300", camp.band(1, 1), 300);
        Check.due("ice of a", camp.band(0, 2), 0);
        Check.due("ice of b", camp.band(1, 2), 0);
        camp.pass(60);
        Check.due("snow is never less than 0", camp.band(0, 1), 0);
        Check.due("snow is never more than 300", camp.band(1, 1), 300);
        Check.due("ice", camp.band(0, 2), 60 * 30);
        Check.due("no ice of b", camp.band(1, 2), 0);
    }

    private static void warmths() {
        Check.sentence(17, "The warmth at a band is that of the day of the week less its height.");
        GlacierCamp camp = Check.camp("band a height 0 snow 300; band b height 9 snow 300; band c height 10 snow 300; "
                + "band d height 11 snow 200; band e height 20 snow 200; day 1 warm 30;");
        int[] first = {270, 297, 300, 200, 205};
        int[] second = {180, 234, 240, 143, 175};
        camp.pass(1);
        for (int i = 0; i < 5; i++) {
            Check.due("10 less the height of " + i, camp.band(i, 1), first[i]);
        }
        camp.pass(1);
        for (int i = 0; i < 5; i++) {
            Check.due("30 less the height of " + i, camp.band(i, 1), second[i]);
        }
    }

    /** At a band with so much snow, on a day with the warmth 10. */
    private static void weather(int height, int snow, int snowThen, int iceThen) {
        GlacierCamp camp = camp("band a height " + height + " snow " + snow + ";", 1);
        Check.due("height " + height + ", snow " + snow + ": snow then", camp.band(0, 1), snowThen);
        Check.due("height " + height + ", snow " + snow + ": ice then", camp.band(0, 2), iceThen);
    }

    private static void melting() {
        Check.sentence(17, "If it is greater than 0, 3 times as much melts: off the snow, and what is more than that "
                + "off the ice.");
        weather(11, 5, 5, 0);
        weather(10, 5, 5, 0);
        weather(10, 0, 0, 0);
        weather(9, 4, 1, 0);
        weather(9, 3, 0, 0);
        weather(9, 2, 0, 1);
        weather(9, 1, 0, 2);
        weather(9, 0, 0, 3);
        weather(0, 31, 1, 0);
        weather(0, 30, 0, 0);
        weather(0, 29, 0, 1);
        weather(0, 0, 0, 30);
        weather(0, 300, 270, 0);
        GlacierCamp camp = camp("band a height 0 snow 1; day 0 warm 30; day 1 warm 30;", 2);
        Check.due("89 and 90 of ice", camp.band(0, 2), 179);
    }

    private static void snowing() {
        Check.sentence(17, "If it is less than 0, half of what it is less (cut) snows, but no more than up to 300.");
        weather(11, 5, 5, 0);
        weather(12, 5, 6, 0);
        weather(13, 5, 6, 0);
        weather(14, 5, 7, 0);
        weather(19, 0, 4, 0);
        weather(20, 0, 5, 0);
        weather(20, 294, 299, 0);
        weather(20, 295, 300, 0);
        weather(20, 296, 300, 0);
        weather(20, 299, 300, 0);
        weather(20, 300, 300, 0);
        weather(12, 299, 300, 0);
        weather(12, 300, 300, 0);
        weather(11, 300, 300, 0);
    }

    // ---- stakes

    private static void stakes() {
        Check.tests(GlacierEdgeTest::stakesAtFirst, GlacierEdgeTest::standingOut, GlacierEdgeTest::snowAtStakes,
                GlacierEdgeTest::stakesThatFall, GlacierEdgeTest::stakesThatLie);
    }

    private static void stakesAtFirst() {
        Check.sentence(8, "Each is drilled into a band, so deep, and stands, at first.");
        GlacierCamp camp = Check.camp(TWO + "stake s in b deep 1; stake r in a deep 200;");
        int[][] due = {{1, 1, 0, 1, -1, 0}, {0, 200, 0, 1, -1, 0}};
        for (int i = 0; i < 2; i++) {
            for (int what = 0; what < 6; what++) {
                Check.due("stake(" + i + ", " + what + ")", camp.stake(i, what), due[i][what]);
            }
        }
    }

    /** What a stake stands out by behind each of these days, each with its warmth, at height 10. */
    private static void out(int snow, int[] warmths, int... due) {
        GlacierCamp camp = Check.camp("band a height 10 snow " + snow + "; band b height 11 snow 300; "
                + "stake s in a deep 200; stake r in b deep 200;");
        for (int i = 0; i < warmths.length; i++) {
            camp.setWarm(i, warmths[i]);
            camp.pass(1);
            Check.due("snow " + snow + ", day " + i + ": it stands out by", camp.stake(0, 2), due[i]);
        }
    }

    private static void standingOut() {
        Check.sentence(17, "It stands out by 0 as it is drilled; by more as much as melts in its band, by less as "
                + "much as snows there, but at least by 0.");
        out(100, new int[] {10, 11, 9, 8, 10, 0}, 0, 3, 3, 2, 2, 0);
        out(0, new int[] {11, 12, 8}, 3, 9, 8);
        out(2, new int[] {11, 9, 7, 6}, 3, 3, 2, 0);
        out(100, new int[] {0, 11, 4, 11}, 0, 3, 0, 3);
        out(100, new int[] {11, 5, 11, 4, 11, 2}, 3, 1, 4, 1, 4, 0);
    }

    private static void snowAtStakes() {
        Check.sentence(17, "by less as much as snows there");
        out(300, new int[] {11, 0}, 3, 0);
        out(298, new int[] {0, 12, 0, 0, 0}, 0, 6, 1, 0, 0);
        out(300, new int[] {13, 0, 0, 0, 0}, 9, 4, 0, 0, 0);
        GlacierCamp full = Check.camp("band a height 20 snow 297; stake s in a deep 200; day 0 warm 21; "
                + "day 1 warm 30; day 2 warm 0; day 3 warm 0; day 4 warm 0; day 5 warm 0;");
        int[] due = {3, 33, 23, 13, 3, 0};
        for (int i = 0; i < due.length; i++) {
            full.pass(1);
            Check.due("10 snow, the last time 6 that still fit: " + i, full.stake(0, 2), due[i]);
        }
    }

    private static void stakesThatFall() {
        Check.sentence(17, "As soon as it stands out as much as it is deep, or more, it falls, and lies");
        GlacierCamp camp = Check.camp("band a height 9 snow 300; stake s in a deep 2; stake r in a deep 3; "
                + "stake q in a deep 4; stake p in a deep 6; stake o in a deep 7; stake n in a deep 1;");
        int[][] stands = {{1, 1, 1, 1, 1, 1}, {0, 0, 1, 1, 1, 0}, {0, 0, 0, 0, 1, 0}, {0, 0, 0, 0, 0, 0}};
        for (int day = 0; day < stands.length; day++) {
            for (int i = 0; i < 6; i++) {
                Check.due("day " + day + ": stake " + i + " stands", camp.stake(i, 3), stands[day][i]);
            }
            camp.pass(1);
        }
        GlacierCamp deepest = Check.camp("band a height 0 snow 0; stake s in a deep 200; day 6 warm 6; day 7 warm 1;");
        deepest.pass(7);
        Check.due("198 of 200", deepest.stake(0, 3), 1);
        deepest.pass(1);
        Check.due("201 of 200", deepest.stake(0, 3), 0);
        Check.due("it stands out by", deepest.stake(0, 2), 201);
    }

    private static void stakesThatLie() {
        Check.sentence(17, "it does not change then, and its readings stay, also as it is drilled anew");
        GlacierCamp camp = Check.camp("band a height 9 snow 300; stake s in a deep 6; team t in a size 2 food 40; "
                + "drill s when day = 6; day 3 warm 30; day 4 warm 0; day 5 warm 0; day 6 warm 9;");
        int[] out = {3, 6, 6, 6, 6, 6, 0, 3, 6};
        int[] latest = {3, 3, 3, 3, 3, 3, 0, 3, 3};
        int[] readings = {1, 1, 1, 1, 1, 1, 2, 3, 3};
        for (int i = 0; i < out.length; i++) {
            camp.pass(1);
            Check.due("day " + i + ": it stands out by", camp.stake(0, 2), out[i]);
            Check.due("day " + i + ": its latest reading", camp.stake(0, 4), latest[i]);
            Check.due("day " + i + ": how often it was read", camp.stake(0, 5), readings[i]);
        }
        GlacierCamp drilled = Check.camp("band a height 9 snow 300; stake s in a deep 3; stake r in a deep 6; "
                + "team t in a size 2 food 40; drill r when day = 3; day 3 warm 30;");
        drilled.pass(4);
        Check.due("drilled and fallen on one day: its latest reading stays", drilled.stake(1, 4), 3);
        Check.due("and how often it was read", drilled.stake(1, 5), 1);
        Check.due("never read", drilled.stake(0, 4), -1);
    }

    // ---- crevasses

    private static void crevasses() {
        Check.tests(GlacierEdgeTest::whereCrevassesLie, GlacierEdgeTest::bridgesThatMelt,
                GlacierEdgeTest::bridgesInSnow, GlacierEdgeTest::known);
    }

    private static void whereCrevassesLie() {
        Check.sentence(12, "Each lies above a band: between it and the next higher one (or above all).");
        GlacierCamp camp = Check.camp(TWO + "band e height 12 snow 0; crevasse c above a bridge 0; "
                + "crevasse d above e bridge 0; team t in b size 2 food 9; team u in e size 2 food 9;");
        Check.due("no crevasse between b and e", camp.safe(0, true), true);
        Check.due("c between b and a", camp.safe(0, false), false);
        Check.due("d is above all", camp.safe(1, false), true);
        Check.dueThrow("nothing is above all", camp, CANNOT, () -> camp.go(1, true));
        Check.due("d can be probed", camp.probe(1, 1), 0);
    }

    /** The bridge behind a day with this warmth, above a band of height 10. */
    private static void bridge(int bridge, int warmth, int snow, int due) {
        GlacierCamp camp = camp("band a height 10 snow " + snow + "; crevasse c above a bridge " + bridge
                + "; day 0 warm " + warmth + ";", 1);
        Check.due("bridge " + bridge + ", warmth " + warmth + ", snow " + snow, camp.crevasse(0, 1), due);
    }

    private static void bridgesThatMelt() {
        Check.sentence(17, "It has a bridge, 0 to 99: less by the warmth at its band, if that is greater than 0, at "
                + "least 0");
        bridge(50, 10, 0, 50);
        bridge(50, 11, 0, 49);
        bridge(50, 12, 99, 48);
        bridge(20, 30, 0, 0);
        bridge(21, 30, 0, 1);
        bridge(19, 30, 0, 0);
        bridge(1, 11, 0, 0);
        bridge(0, 11, 0, 0);
        bridge(0, 30, 300, 0);
        bridge(99, 11, 0, 98);
        GlacierCamp camp = camp(TWO + "crevasse c above b bridge 50; crevasse d above a bridge 50;", 1);
        Check.due("of its own band: 10 less 11", camp.crevasse(0, 1), 50);
        Check.due("of its own band: 10 less 10", camp.crevasse(1, 1), 50);
        camp.setWarm(1, 14);
        camp.pass(1);
        Check.due("of its own band: 14 less 11", camp.crevasse(0, 1), 47);
        Check.due("of its own band: 14 less 10", camp.crevasse(1, 1), 46);
    }

    private static void bridgesInSnow() {
        Check.sentence(17, "more by what snows there, at most 99");
        bridge(50, 9, 0, 50);
        bridge(50, 8, 0, 51);
        bridge(50, 7, 0, 51);
        bridge(50, 0, 0, 55);
        bridge(94, 0, 0, 99);
        bridge(95, 0, 0, 99);
        bridge(99, 8, 0, 99);
        bridge(0, 8, 0, 1);
        bridge(50, 0, 297, 53);
        bridge(50, 0, 300, 50);
        GlacierCamp camp = camp("band a height 12 snow 0; band b height 14 snow 0; crevasse c above b bridge 50; "
                + "crevasse d above a bridge 50;", 1);
        Check.due("of its own band: 2", camp.crevasse(0, 1), 52);
        Check.due("of its own band: 1", camp.crevasse(1, 1), 51);
    }

    private static void known() {
        Check.sentence(13, "It is known on the day on which it was probed, and on the two following ones.");
        GlacierCamp camp = Check.camp(TWO + "crevasse c above a bridge 5; crevasse d above a bridge 99; "
                + "team t in a size 2 food 40; team u in b size 2 food 40;");
        Check.due("not at first", camp.crevasse(0, 2), 0);
        Check.due("probe", camp.probe(0, 0), 5);
        int[] due = {1, 1, 1, 0, 0};
        for (int i = 0; i < due.length; i++) {
            Check.due("known behind " + i + " days", camp.crevasse(0, 2), due[i]);
            Check.due("the other one", camp.crevasse(1, 2), 0);
            camp.pass(1);
        }
        camp.probe(0, 0);
        camp.pass(2);
        camp.probe(1, 0);
        for (int i = 0; i < due.length; i++) {
            Check.due("known behind " + i + " days more", camp.crevasse(0, 2), due[i]);
            camp.pass(1);
        }
        GlacierCamp ordered = Check.camp(TWO + "crevasse c above a bridge 5; team t in a size 2 food 40; "
                + "probe c by t when day = 7;");
        ordered.pass(7);
        for (int i = 0; i < 4; i++) {
            ordered.pass(1);
            Check.due("probed by an order on day 7, known on day " + (8 + i), ordered.crevasse(0, 2), i < 2 ? 1 : 0);
        }
    }

    // ---- teams

    private static void teams() {
        Check.tests(GlacierEdgeTest::teamsAtFirst, GlacierEdgeTest::oneThingADay);
    }

    private static void teamsAtFirst() {
        Check.sentence(11, "Teams have a size, food in a sack, at most 40, and are in a band, here at first, or gone.");
        GlacierCamp camp = Check.camp(TWO + "team t in b size 6 food 40; team u in a size 2 food 0; "
                + "depot d in b food 99;");
        int[][] due = {{6, 40, 1, 0, 1, 0, 0, 0}, {2, 0, 0, 0, 1, 0, 0, 0}};
        for (int i = 0; i < 2; i++) {
            for (int what = 0; what < 8; what++) {
                Check.due("team(" + i + ", " + what + ")", camp.team(i, what), due[i][what]);
            }
        }
        Check.dueThrow("more than 40", camp, CANNOT, () -> camp.fill(0, 1));
        camp.pass(1);
        Check.due("fill", camp.fill(0, 40), 3);
        Check.due("sack", camp.team(0, 1), 40);
    }

    private static void act(GlacierCamp camp, int what) {
        if (what < 2) {
            camp.go(0, what == 0);
        } else {
            camp.probe(0, what - 2);
        }
    }

    private static void oneThingADay() {
        Check.sentence(12, "In a day a team does one thing at most: it climbs, descends, or probes.");
        String list = TWO + "band e height 12 snow 0; crevasse c above a bridge 99; crevasse d above b bridge 99; "
                + "depot f in a food 9; depot g in b food 9; depot h in e food 9; team t in b size 2 food 0;";
        for (int first = 0; first < 4; first++) {
            for (int second = 0; second < 4; second++) {
                GlacierCamp camp = Check.camp(list);
                Check.due("nothing done", camp.team(0, 7), 0);
                act(camp, first);
                Check.due("done", camp.team(0, 7), 1);
                int tried = second;
                Check.dueThrow(first + ", then " + second, camp, CANNOT, () -> act(camp, tried));
                Check.due("filling is none of them", camp.fill(0, 1), 1);
                camp.pass(1);
                Check.due("another day", camp.team(0, 7), 0);
                act(camp, camp.team(0, 2) == 2 ? 1 : 0);
            }
        }
        GlacierCamp filled = Check.camp(list);
        Check.due("fill", filled.fill(0, 1), 1);
        Check.due("not done by that", filled.team(0, 7), 0);
        Check.due("so it can climb", filled.go(0, true), 2);
        GlacierCamp ordered = camp(list + "climb t when 1 = 1; descend t when 1 = 1; probe c by t when 1 = 1; "
                + "probe d by t when 1 = 1;", 1);
        Check.due("one order a day", ordered.count(11), 1);
        Check.due("in band", ordered.team(0, 2), 2);
        ordered.pass(1);
        Check.due("descends on the next one", ordered.count(11), 2);
    }

    // ---- going

    private static void going() {
        Check.tests(GlacierEdgeTest::ways, GlacierEdgeTest::canGo);
    }

    private static void ways() {
        Check.sentence(12, "Climbing leads to the next higher band, over all crevasses above the band where it is, by "
                + "numbers; descending to the next lower band, over all crevasses above that one, from the last one "
                + "on.");
        String list = TWO + "band e height 12 snow 0; crevasse c above b bridge 99; crevasse d above a bridge 99; "
                + "crevasse f above b bridge 99; crevasse g above a bridge 99; team t in b size 2 food 9;";
        GlacierCamp camp = Check.camp(list);
        Check.due("up", camp.go(0, true), 2);
        int[] up = {1, 0, 1, 0};
        for (int i = 0; i < 4; i++) {
            Check.due("over " + i, camp.crevasse(i, 4), up[i]);
        }
        GlacierCamp below = Check.camp(list);
        Check.due("down", below.go(0, false), 0);
        for (int i = 0; i < 4; i++) {
            Check.due("over " + i, below.crevasse(i, 4), 1 - up[i]);
        }
        String weak = list.replace("99", "15");
        GlacierCamp first = Check.camp(weak);
        first.go(0, true);
        GlacierCamp last = Check.camp(weak);
        last.go(0, false);
        for (int i = 0; i < 4; i++) {
            Check.due("climbing, it falls at " + i, first.crevasse(i, 5), i == 0 ? 1 : 0);
            Check.due("descending, it falls at " + i, last.crevasse(i, 5), i == 3 ? 1 : 0);
        }
    }

    private static void canGo() {
        Check.sentence(12, "A team can go, if it is here, has done nothing in this day, there is such a band, and "
                + "there is no crevasse on the way that is known, and has a bridge of less than 8 times the size of "
                + "the team.");
        GlacierCamp gone = camp(TWO + "team t in a size 2 food 0;", 3);
        Check.dueThrow("it is gone", gone, CANNOT, () -> gone.go(0, true));
        GlacierCamp hungry = camp(TWO + "team t in a size 2 food 0;", 2);
        Check.due("it is hungry for 2 days, but here", hungry.go(0, true), 1);
        Check.dueThrow("it has done something", hungry, CANNOT, () -> hungry.go(0, false));
        GlacierCamp one = Check.camp("band a height 10 snow 0; team t in a size 2 food 0;");
        Check.dueThrow("none higher", one, CANNOT, () -> one.go(0, true));
        Check.dueThrow("none lower", one, CANNOT, () -> one.go(0, false));
        for (int size = 2; size <= 6; size++) {
            knownBridge(size, 8 * size, true);
            knownBridge(size, 8 * size - 1, false);
            knownBridge(size, 0, false);
            knownBridge(size, 99, true);
        }
        GlacierCamp other = Check.camp(TWO + "band e height 12 snow 0; crevasse c above b bridge 0; "
                + "team t in b size 2 food 9; team u in a size 2 food 9; team v in b size 2 food 9;");
        other.probe(2, 0);
        Check.due("known and weak, but not on its way up", other.go(1, true), 1);
        Check.due("known and weak, but not on its way down", other.go(0, false), 0);
    }

    private static void knownBridge(int size, int bridge, boolean can) {
        String list = TWO + "crevasse c above a bridge " + bridge + "; team t in a size " + size
                + " food 40; team u in b size " + size + " food 40; team v in b size 2 food 40; climb t when 1 = 1;";
        GlacierCamp camp = Check.camp(list);
        camp.probe(2, 0);
        if (can) {
            Check.due("climbs over " + bridge, camp.go(0, true), 1);
            Check.due("descends over " + bridge, camp.go(1, false), 0);
        } else {
            Check.dueThrow("climbs over " + bridge, camp, CANNOT, () -> camp.go(0, true));
            Check.dueThrow("descends over " + bridge, camp, CANNOT, () -> camp.go(1, false));
            camp.pass(1);
            Check.due("climbs by an order over " + bridge, camp.count(11), 0);
        }
        GlacierCamp unknown = Check.camp(list);
        Check.due("over " + bridge + ", not known", unknown.go(0, true), can ? 1 : 0);
        Check.due("done, either way", unknown.team(0, 7), 1);
    }

    private static void falling() {
        Check.tests(GlacierEdgeTest::whereItFalls, GlacierEdgeTest::whatAFallCosts, GlacierEdgeTest::eitherWay);
    }

    private static void eitherWay() {
        Check.sentence(12, "Either way it has done its thing.");
        GlacierCamp camp = Check.camp(TWO + "crevasse c above a bridge 0; team t in a size 2 food 9; "
                + "team u in b size 2 food 9;");
        camp.go(0, true);
        Check.due("fallen, and done", camp.team(0, 7), 1);
        Check.dueThrow("not again", camp, CANNOT, () -> camp.go(0, true));
        Check.dueThrow("not probe", camp, CANNOT, () -> camp.probe(0, 0));
        GlacierCamp over = Check.camp(TWO + "team t in a size 2 food 9;");
        over.go(0, true);
        Check.due("gone over, and done", over.team(0, 7), 1);
        Check.dueThrow("not back", over, CANNOT, () -> over.go(0, false));
    }

    private static void whereItFalls() {
        Check.sentence(12, "Then it goes over one by one; at the first one with a bridge of less than that it falls");
        for (int size = 2; size <= 6; size++) {
            for (int weak = 0; weak < 4; weak++) {
                for (int lack = 0; lack <= 1; lack++) {
                    StringBuilder list = new StringBuilder(TWO);
                    for (int i = 0; i < 4; i++) {
                        int bridge = i == weak ? 8 * size - lack : 8 * size;
                        list.append("crevasse c" + i + " above a bridge " + bridge + "; ");
                    }
                    list.append("team t in a size " + size + " food 9; ");
                    GlacierCamp camp = Check.camp(list.toString());
                    Check.due("it is in band", camp.go(0, true), 1 - lack);
                    for (int i = 0; i < 4; i++) {
                        Check.due("fell at " + i, camp.crevasse(i, 5), i == weak ? lack : 0);
                        Check.due("went over " + i, camp.crevasse(i, 4), 1 - lack);
                    }
                }
            }
        }
        GlacierCamp two = Check.camp(TWO + "crevasse c above a bridge 47; crevasse d above a bridge 0; "
                + "team t in a size 6 food 9; team u in b size 6 food 9;");
        two.go(0, true);
        Check.due("only at the first one", two.crevasse(0, 5), 1);
        Check.due("not at the next one", two.crevasse(1, 5), 0);
        two.go(1, false);
        Check.due("down, only at the last one", two.crevasse(1, 5), 1);
        Check.due("falls in all", two.count(10), 2);
    }

    private static void whatAFallCosts() {
        Check.sentence(12, "the bridge is 0 then, half of its sack (rounded up) is lost, and it stays where it was");
        int[] sacks = {0, 1, 2, 3, 39, 40};
        int[] due = {0, 0, 1, 1, 19, 20};
        for (int i = 0; i < sacks.length; i++) {
            GlacierCamp camp = Check.camp(TWO + "crevasse c above a bridge 99; crevasse d above a bridge 15; "
                    + "team t in a size 2 food " + sacks[i] + "; team u in b size 2 food " + sacks[i] + ";");
            Check.due("it stays in a", camp.go(0, true), 0);
            Check.due("bridge", camp.crevasse(1, 1), 0);
            Check.due("the other bridge", camp.crevasse(0, 1), 99);
            Check.due("half of " + sacks[i], camp.team(0, 1), due[i]);
            Check.due("it is here", camp.team(0, 4), 1);
            Check.due("falls", camp.team(0, 6), 1);
            Check.due("it stays in b", camp.go(1, false), 1);
            Check.due("half of " + sacks[i], camp.team(1, 1), due[i]);
        }
    }

    private static void probing() {
        Check.sentence(13, "Probing: a team can, if it is here, has done nothing in this day, and is in the band "
                + "above which the crevasse lies, or in the next higher one.");
        for (int crevasse = 0; crevasse < 4; crevasse++) {
            for (int team = 0; team < 4; team++) {
                GlacierCamp camp = Check.camp(Check.lines("band b# height 1# snow 0;", 4)
                        + Check.lines("crevasse c# above b# bridge 2#;", 4)
                        + Check.lines("team t# in b# size 2 food 9;", 4));
                int who = team;
                int which = crevasse;
                if (team == crevasse || team == crevasse + 1) {
                    Check.due("team " + team + " probes " + crevasse, camp.probe(team, crevasse), 20 + crevasse);
                    Check.due("done", camp.team(team, 7), 1);
                    Check.dueThrow("done", camp, CANNOT, () -> camp.probe(who, which));
                } else {
                    Check.dueThrow("team " + team + " probes " + crevasse, camp, CANNOT, () -> camp.probe(who, which));
                }
            }
        }
        GlacierCamp gone = camp(TWO + "crevasse c above a bridge 9; team t in a size 2 food 0; "
                + "probe c by t when day = 3;", 3);
        Check.dueThrow("gone", gone, CANNOT, () -> gone.probe(0, 0));
        gone.pass(1);
        Check.due("gone, by an order", gone.count(11), 0);
    }

    private static void filling() {
        Check.sentence(14, "Filling: a team that is here gets food out of the depot of its band that has any, of "
                + "several the one with the smallest number.");
        GlacierCamp camp = Check.camp(TWO + "depot d in b food 9; depot e in a food 0; depot f in a food 1; "
                + "depot g in a food 9; team t in a size 2 food 0; team u in b size 2 food 0;");
        Check.due("1 of f", camp.fill(0, 5), 1);
        Check.due("f", camp.depot(2, 1), 0);
        Check.due("g", camp.depot(3, 1), 9);
        Check.due("5 of g", camp.fill(0, 5), 5);
        camp.stock(1, 3);
        Check.due("3 of e, now that it has any", camp.fill(0, 5), 3);
        Check.due("g", camp.depot(3, 1), 4);
        Check.due("the last 4 of g", camp.fill(0, 4), 4);
        Check.due("d is in another band", camp.depot(0, 1), 9);
        Check.dueThrow("none has any", camp, CANNOT, () -> camp.fill(0, 1));
        Check.due("u fills of d", camp.fill(1, 40), 9);
        GlacierCamp gone = camp(TWO + "depot d in a food 0; team t in a size 2 food 0; fill t with 5 when day = 3;", 3);
        gone.stock(0, 9);
        Check.dueThrow("gone", gone, CANNOT, () -> gone.fill(0, 1));
        gone.pass(1);
        Check.due("gone, by an order", gone.depot(0, 1), 9);
    }

    private static void drilling() {
        Check.sentence(17, "Drilling: a stake that lies can be drilled anew, as deep as before, if a team that is "
                + "here is in its band: it stands then, and stands out by 0.");
        String list = "band a height 9 snow 300; band b height 10 snow 0; stake s in a deep 3; depot d in a food 0; "
                + "day 1 warm 9; day 2 warm 9; day 3 warm 9; ";
        String team = "team t in a size 2 food 40; ";
        GlacierCamp camp = camp(list + team + "drill s when 1 = 1;", 1);
        Check.due("one that stands cannot be drilled", camp.count(11), 0);
        Check.due("it falls", camp.stake(0, 3), 0);
        camp.pass(1);
        Check.due("one that lies can", camp.count(11), 1);
        Check.due("it stands", camp.stake(0, 3), 1);
        Check.due("by 0", camp.stake(0, 2), 0);
        Check.due("as deep as before", camp.stake(0, 1), 3);
        Check.due("no team does a thing by that", camp(list + team + "drill s when 1 = 1; climb t when day = 1;",
                2).count(11), 2);
        Check.due("nobody in its band", camp(list + team.replace("in a", "in b") + "drill s when 1 = 1;", 2).count(11),
                0);
        GlacierCamp none = camp(list + "drill s when 1 = 1;", 2);
        Check.due("no team at all", none.count(11), 0);
        Check.due("it still lies", none.stake(0, 3), 0);
        GlacierCamp gone = camp(list + team.replace("40", "0") + "drill s when day = 3;", 4);
        Check.due("nobody who is here", gone.count(11), 0);
        GlacierCamp left = camp(list + team + "climb t when day = 1; drill s when day = 1;", 2);
        Check.due("who climbed ahead of it is not there", left.count(11), 1);
        Check.due("it lies", left.stake(0, 3), 0);
    }

    // ---- a day

    private static void orders() {
        Check.tests(GlacierEdgeTest::inTurn, GlacierEdgeTest::filledByOrder, GlacierEdgeTest::ifItCanGo,
                GlacierEdgeTest::ifItCanProbe, GlacierEdgeTest::ifItCanBeDrilled, GlacierEdgeTest::carriedOut,
                GlacierEdgeTest::weatherInTurn);
    }

    private static void inTurn() {
        Check.sentence(17, "Orders, in the order in which they are told, if the test holds as it comes to its turn "
                + "(or there is none)");
        String list = TWO + "depot d in a food 9; team t in a size 2 food 0; ";
        Check.due("fill, then what sees it", camp(list + "fill t with 4; fill t with 1 when sack t = 4;", 1).team(0, 1),
                4);
        Check.due("what sees it not yet", camp(list + "fill t with 1 when sack t = 4; fill t with 4;", 1).team(0, 1),
                3);
        Check.due("without a test", camp(list + "fill t with 4;", 1).count(11), 1);
        Check.due("with one that holds", camp(list + "fill t with 4 when 1 = 1;", 1).count(11), 1);
        Check.due("with one that does not", camp(list + "fill t with 4 when 1 = 2;", 1).count(11), 0);
        Check.due("climb, then stay", camp(list + "climb t when 1 = 1; descend t when place t = 1;", 1).team(0, 2), 1);
        Check.due("the snow of the evening before", camp("band a height 9 snow 3; team t in a size 2 food 0; "
                + "depot d in a food 9; fill t with 1 when snow a = 3;", 1).count(11),
                1);
        Check.due("twenty, in their order", camp(list + "fill t with 1 when stock d = 9;"
                + Check.lines("fill t with 1 when stock d = 8 - sack t + 1;", 19), 1).count(11), 9);
    }

    private static void filledByOrder() {
        Check.sentence(17, "fill: the sum, held at 0 and at what the sack has room for, but no more than the depot "
                + "has, comes from there into the sack, if that is some.");
        fillOrder("0", 9, 9, 0);
        fillOrder("- 1", 9, 9, 0);
        fillOrder("65536 * 32768", 9, 9, 0);
        fillOrder("1", 9, 9, 1);
        fillOrder("8", 9, 9, 8);
        fillOrder("9", 9, 9, 9);
        fillOrder("10", 9, 9, 9);
        fillOrder("40", 0, 99, 40);
        fillOrder("41", 0, 99, 40);
        fillOrder("999999", 0, 99, 40);
        fillOrder("5", 36, 9, 4);
        fillOrder("5", 35, 9, 5);
        fillOrder("5", 39, 9, 1);
        fillOrder("5", 40, 9, 0);
        fillOrder("5", 0, 0, 0);
        fillOrder("40", 1, 39, 39);
        fillOrder("40", 1, 38, 38);
        GlacierCamp camp = camp(TWO + "depot d in a food 3; depot e in a food 9; team t in a size 2 food 0; "
                + "fill t with 5;", 1);
        Check.due("only out of the first one that has any", camp.team(0, 1), 2);
        Check.due("the next one", camp.depot(1, 1), 9);
    }

    private static void fillOrder(String sum, int sack, int stock, int due) {
        GlacierCamp camp = camp(TWO + "depot d in a food " + stock + "; depot e in b food 5; team t in a size 2 food "
                + sack + "; fill t with " + sum + ";", 1);
        String what = "fill of " + sum + " into " + sack + " out of " + stock;
        int full = sack + due;
        Check.due(what + ": sack", camp.team(0, 1), full > 0 ? full - 1 : 0);
        Check.due(what + ": depot", camp.depot(0, 1), stock - due);
        Check.due(what + ": carried out", camp.count(11), due > 0 ? 1 : 0);
        Check.due(what + ": of the other band", camp.depot(1, 1), 5);
    }

    private static void ifItCanGo() {
        String list = TWO + "crevasse c above a bridge 15; team t in a size 2 food 40; ";
        Check.sentence(17, "climb and descend: if the team can go.");
        Check.due("no band below", camp(list + "descend t when 1 = 1;", 1).count(11), 0);
        Check.due("no band above", camp(list.replace("in a", "in b") + "climb t when 1 = 1;", 1).count(11), 0);
        GlacierCamp known = Check.camp(list + "climb t when day = 1;");
        known.probe(0, 0);
        known.pass(2);
        Check.due("over what is known as weak", known.count(11), 0);
        Check.due("nothing lost", known.team(0, 1), 38);
    }

    private static void ifItCanProbe() {
        Check.sentence(17, "probe: if the team can.");
        String list = TWO + "crevasse c above a bridge 15; team t in a size 2 food 40; ";
        Check.due("from the band below", camp(list + "probe c by t when 1 = 1;", 1).crevasse(0, 3), 15);
        Check.due("from the band above", camp(list.replace("in a", "in b") + "probe c by t when 1 = 1;", 1).crevasse(0,
                3), 15);
        GlacierCamp far = camp(list.replace("above a", "above b") + "probe c by t when 1 = 1;", 1);
        Check.due("from too far below", far.crevasse(0, 3), -1);
        Check.due("not carried out", far.count(11), 0);
    }

    private static void ifItCanBeDrilled() {
        Check.sentence(17, "drill: if it can be.");
        String stake = "band a height 9 snow 0; stake s in a deep 3; team t in a size 2 food 9; drill s when day < 2;";
        Check.due("not while it stands", camp(stake, 1).count(11), 0);
        Check.due("as it lies", camp(stake, 2).count(11), 1);
    }

    private static void carriedOut() {
        Check.sentence(17, "Each one that does so is carried out (a team that falls, too).");
        String list = TWO + "crevasse c above a bridge 15; depot d in a food 9; team t in a size 2 food 4; ";
        GlacierCamp fallen = camp(list + "climb t when 1 = 1;", 1);
        Check.due("a fall counts", fallen.count(11), 1);
        Check.due("it fell", fallen.count(10), 1);
        Check.due("a climb counts", camp(list.replace("15", "16") + "climb t when 1 = 1;", 1).count(11), 1);
        Check.due("a probe counts", camp(list + "probe c by t when 1 = 1;", 1).count(11), 1);
        Check.due("a fill counts", camp(list + "fill t with 1;", 1).count(11), 1);
        Check.due("a fill of nothing does not", camp(list + "fill t with 0;", 1).count(11), 0);
        Check.due("what cannot be does not", camp(list + "descend t when 1 = 1;", 1).count(11), 0);
        Check.due("a test that does not hold", camp(list + "fill t with 1 when 1 > 1;", 1).count(11), 0);
        Check.due("20 a day", camp(list + Check.lines("fill t with 1;", 9) + Check.lines("fill t with 0;", 11),
                1).count(11), 9);
        GlacierCamp byHand = Check.camp(list);
        byHand.fill(0, 1);
        byHand.go(0, true);
        byHand.pass(1);
        Check.due("by hand is no order", byHand.count(11), 0);
    }

    private static void weatherInTurn() {
        Check.sentence(17, "Bands, by numbers: they melt, or it snows, with all stakes and bridges there.");
        GlacierCamp camp = camp("band a height 5 snow 6; band b height 16 snow 6; stake s in a deep 99; "
                + "stake r in b deep 99; stake q in a deep 99; crevasse c above a bridge 50; "
                + "crevasse d above b bridge 50; crevasse e above a bridge 51;", 1);
        int[] out = {15, 0, 15};
        int[] bridges = {45, 53, 46};
        for (int i = 0; i < 3; i++) {
            Check.due("stake " + i, camp.stake(i, 2), out[i]);
            Check.due("crevasse " + i, camp.crevasse(i, 1), bridges[i]);
        }
        Check.due("snow of a", camp.band(0, 1), 0);
        Check.due("ice of a", camp.band(0, 2), 9);
        Check.due("snow of b", camp.band(1, 1), 9);
    }

    // ---- eating

    private static void eating() {
        Check.tests(GlacierEdgeTest::halfOfTheirSize, GlacierEdgeTest::whatIsLacking, GlacierEdgeTest::hunger,
                GlacierEdgeTest::gone);
    }

    private static void halfOfTheirSize() {
        Check.sentence(17, "Teams that are here, by numbers, eat half of their size (rounded up): out of the sack");
        int[] due = {0, 0, 1, 2, 2, 3, 3};
        for (int size = 2; size <= 6; size++) {
            GlacierCamp camp = camp(TWO + "depot d in a food 9; team t in a size " + size + " food 40;", 1);
            Check.due("sack of " + size, camp.team(0, 1), 40 - due[size]);
            Check.due("not out of the depot", camp.depot(0, 1), 9);
            GlacierCamp exact = camp(TWO + "depot d in a food 9; team t in a size " + size + " food " + due[size] + ";",
                    1);
            Check.due("the last of the sack", exact.team(0, 1), 0);
            Check.due("none of the depot", exact.depot(0, 1), 9);
            Check.due("not hungry", exact.team(0, 3), 0);
        }
        GlacierCamp both = camp(TWO + "depot d in a food 3; team t in a size 4 food 0; team u in a size 4 food 0;", 1);
        Check.due("the first one eats enough", both.team(0, 3), 0);
        Check.due("the other one lacks some", both.team(1, 3), 1);
        GlacierCamp gone = camp(TWO + "depot d in a food 0; team t in a size 2 food 0;", 3);
        gone.stock(0, 9);
        gone.pass(1);
        Check.due("who is gone eats nothing", gone.depot(0, 1), 9);
    }

    private static void whatIsLacking() {
        Check.sentence(17, "what is lacking out of depots of their band, by numbers, as far as there is any");
        GlacierCamp camp = camp(TWO + "depot d in b food 9; depot e in a food 1; depot f in a food 0; "
                + "depot g in a food 1; team t in a size 6 food 1;", 1);
        Check.due("1 of the sack", camp.team(0, 1), 0);
        Check.due("1 of e", camp.depot(1, 1), 0);
        Check.due("1 of g", camp.depot(3, 1), 0);
        Check.due("none of b", camp.depot(0, 1), 9);
        Check.due("not hungry", camp.team(0, 3), 0);
        camp.stock(3, 2);
        camp.pass(1);
        Check.due("2 are not enough", camp.team(0, 3), 1);
        Check.due("but they are eaten", camp.depot(3, 1), 0);
        camp.stock(3, 3);
        camp.stock(1, 2);
        camp.pass(1);
        Check.due("e first", camp.depot(1, 1), 0);
        Check.due("then g", camp.depot(3, 1), 2);
    }

    private static void hunger() {
        Check.sentence(17, "Who lacks some still is hungry for one day more; who does not is hungry for 0 days.");
        GlacierCamp camp = camp(TWO + "depot d in a food 0; team t in a size 6 food 0; ", 1);
        Check.due("lacks 3", camp.team(0, 3), 1);
        camp.stock(0, 2);
        camp.pass(1);
        Check.due("lacks 1", camp.team(0, 3), 2);
        camp.stock(0, 3);
        camp.pass(1);
        Check.due("lacks none", camp.team(0, 3), 0);
        camp.pass(2);
        Check.due("hungry from anew", camp.team(0, 3), 2);
    }

    private static void gone() {
        Check.sentence(17, "Who is hungry for 3 days is gone.");
        String list = TWO + "depot d in a food 0; team t in a size 6 food 0; ";
        GlacierCamp camp = camp(list, 2);
        Check.due("here with 2 days", camp.team(0, 4), 1);
        camp.pass(1);
        Check.due("hungry for 3 days", camp.team(0, 3), 3);
        Check.due("gone", camp.team(0, 4), 0);
        camp.stock(0, 99);
        camp.pass(2);
        Check.due("it stays hungry for 3 days", camp.team(0, 3), 3);
        Check.due("and gone", camp.team(0, 4), 0);
        Check.due("its band stays", camp.team(0, 2), 0);
        GlacierCamp saved = camp(list, 2);
        saved.stock(0, 3);
        saved.pass(1);
        Check.due("fed on the third day", saved.team(0, 4), 1);
    }

    private static void readings() {
        Check.sentence(17, "Teams that are here, by numbers, read each stake of their band that stands, by numbers: "
                + "that is one reading more, and its latest reading is what it stands out by.");
        GlacierCamp camp = camp("band a height 9 snow 99; band b height 10 snow 0; stake s in a deep 3; "
                + "stake r in b deep 9; stake q in a deep 99; stake p in a deep 99; team t in a size 2 food 9; "
                + "team u in a size 2 food 9; team v in b size 2 food 1;", 1);
        int[] latest = {-1, 0, 3, 3};
        int[] times = {0, 1, 2, 2};
        for (int i = 0; i < 4; i++) {
            Check.due("latest reading of " + i, camp.stake(i, 4), latest[i]);
            Check.due("how often it was read: " + i, camp.stake(i, 5), times[i]);
        }
        Check.due("readings of t", camp.team(0, 5), 2);
        Check.due("readings of u", camp.team(1, 5), 2);
        Check.due("readings of v", camp.team(2, 5), 1);
        Check.due("v is hungry, and reads", camp.pass(2), 10);
        Check.due("v is gone on this day, and does not", camp.pass(1), 4);
        GlacierCamp moved = Check.camp(TWO + "stake s in b deep 9; team t in a size 2 food 9; climb t when day = 1;");
        Check.due("not of the other band", moved.pass(1), 0);
        Check.due("of the band to which it climbed", moved.pass(1), 1);
    }

    private static void endOfDay() {
        Check.sentence(17, "The day is 1 greater, and no team has done anything in it.");
        GlacierCamp camp = Check.camp(TWO + "crevasse c above a bridge 0; team t in a size 2 food 9; "
                + "team u in a size 2 food 9; team v in b size 2 food 9; probe c by v when 1 = 1;");
        camp.go(0, true);
        camp.probe(1, 0);
        camp.pass(1);
        Check.due("day", camp.count(0), 1);
        for (int i = 0; i < 3; i++) {
            Check.due("done of " + i, camp.team(i, 7), 0);
        }
        Check.due("so it can probe", camp.probe(0, 0), 0);
    }

    // ---- formulas

    /** Whether a test holds on day 9, the second one of the list, at its beginning. */
    private static void holds(String test, boolean due) {
        GlacierCamp camp = new GlacierCamp();
        camp.pass(8);
        Check.due("list", Check.teach(camp, "band a height 7 snow 33; band b height 12 snow 44; stake s in b deep 60; "
                + "stake r in a deep 9; crevasse c above a bridge 70; crevasse e above b bridge 71; "
                + "depot d in b food 99; team t in b size 2 food 13; team u in a size 2 food 0; day 0 warm 14; "
                + "day 1 warm 17; day 2 warm 3; probe e by t when day = 0; fill t with 1 when day = 1 and [" + test
                + "];"), 0);
        camp.pass(2);
        Check.due(test, camp.count(11) == 2, due);
    }

    private static void formulas() {
        Check.tests(GlacierEdgeTest::whatIsTold, GlacierEdgeTest::andAndOr);
    }

    private static void whatIsTold() {
        Check.sentence(17, "In tests and sums day is the day of the week, warm the warmth of this day, snow that of a "
                + "band, out what a stake stands out by, bridge that of a crevasse, stock the food of a depot, sack "
                + "that of a team, place the number of its band; standing holds, if the stake stands, here, if the "
                + "team is, known, if the crevasse is.");
        holds("day = 1", true);
        holds("warm = 17", true);
        holds("snow a = 12 and snow b = 38", true);
        holds("out s = 6 and out r = 21", true);
        holds("bridge c = 63 and bridge e = 69", true);
        holds("stock d = 99", true);
        holds("sack t = 12 and sack u = 0", true);
        holds("place t = 1 and place u = 0", true);
        holds("standing s", true);
        holds("standing r", false);
        holds("here t and here u", true);
        holds("known e", true);
        holds("known c", false);
        GlacierCamp camp = Check.camp(TWO + "crevasse c above a bridge 5; team t in a size 2 food 0; "
                + "depot d in a food 99; "
                + "probe c by t when day = 0; fill t with 1 when known c;");
        for (int day = 0; day < 5; day++) {
            camp.pass(1);
            Check.due("known on day " + day, camp.count(11), 1 + Math.min(3, 1 + day));
        }
    }

    private static void andAndOr() {
        Check.sentence(17, "Both sides of and and or are reckoned; and binds more than or, not more than and.");
        String yes = "here t";
        String no = "known c";
        holds(yes + " or " + yes + " and " + no, true);
        holds("[" + yes + " or " + yes + "] and " + no, false);
        holds(no + " and " + no + " or " + yes, true);
        holds(no + " and [" + no + " or " + yes + "]", false);
        holds("not " + no + " or " + yes, true);
        holds("not [" + no + " or " + yes + "]", false);
        holds("not " + no + " and " + no, false);
        holds("not [" + no + " and " + no + "]", true);
        holds("not not " + no, false);
        holds("not not not " + no + " and " + yes, true);
        holds(yes + " and " + yes, true);
        holds(yes + " and " + no, false);
        holds(no + " and " + yes, false);
        holds(yes + " or " + no, true);
        holds(no + " or " + yes, true);
        holds(no + " or " + no, false);
        holds(yes + " or 1 / 0 = 1", true);
        holds("1 < 2 and 2 <= 2 and 3 > 2 and 2 >= 2 and 2 = 2", true);
        holds("2 < 2 or 3 <= 2 or 2 > 2 or 1 >= 2 or 1 = 2", false);
    }
}
