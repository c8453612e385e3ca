/** Promises 6 to 11, and with them what a day does: count, band, stake, crevasse, depot and team. */
public final class TellTest {
    private static final Class<IndexOutOfBoundsException> OUTSIDE = IndexOutOfBoundsException.class;

    public static void main(String[] args) {
        counts();
        told();
        outside();
        melting();
        snowing();
        stakes();
        bridges();
        eating();
        hunger();
        readings();
        sums();
        tests();
        ordersInTurn();
        Check.end();
    }

    private static void counts() {
        GlacierCamp camp = new GlacierCamp();
        camp.pass(9);
        Check.due("list", Check.teach(camp, "band a height 0 snow 5; band b height 9 snow 0; stake s in a deep 200;"
                + "stake r in b deep 3; crevasse c above a bridge 99; depot d in a food 30; depot e in b food 9;"
                + "team t in a size 2 food 0; team u in b size 6 food 0; day 1 warm 4; climb u when 1 = 1;"
                + "fill t with 2; fill u with 0; fill u with 3;"), 0);
        Check.feed(camp, "abc");
        long[] due = {9, 2, 2, 1, 2, 2, 4, 39, 0, 0, 0, 0, 0, 4, 3};
        for (int what = 0; what <= 14; what++) {
            Check.due("count(" + what + ")", camp.count(what), due[what]);
        }
        // Day 1 warm 4: 12 melt at a, 2 snow at b; t eats 1 of 2; u fills 3, eats 3.
        camp.pass(1);
        long[] dueThen = {10, 2, 2, 1, 2, 2, 4, 34, 7, 2, 0, 2, 0, 10, 3};
        for (int what = 0; what <= 14; what++) {
            Check.due("then count(" + what + ")", camp.count(what), dueThen[what]);
        }
        // Then three days of 10: 30 melt at a, 3 at b, where the stake falls in the first of them.
        camp.pass(1);
        Check.due("readings", camp.count(9), 3);
        Check.due("ice", camp.count(8), 7 + 30 + 1);
        camp.pass(5);
        Check.due("gone", camp.count(12), 1);
        Check.due("teams", camp.count(5), 2);
        Check.dueThrow("count(-1)", camp, OUTSIDE, () -> camp.count(-1));
        Check.dueThrow("count(15)", camp, OUTSIDE, () -> camp.count(15));
        Check.dueThrow("count of the least int", camp, OUTSIDE, () -> camp.count(Integer.MIN_VALUE));
        Check.dueThrow("count of the greatest int", camp, OUTSIDE, () -> camp.count(Integer.MAX_VALUE));
    }

    private static void facts(String what, int[] got, int... want) {
        for (int i = 0; i < want.length; i++) {
            Check.due(what + " " + i, got[i], want[i]);
        }
    }

    private static int[] band(GlacierCamp camp, int band) {
        int[] facts = new int[6];
        for (int i = 0; i < 6; i++) {
            facts[i] = camp.band(band, i);
        }
        return facts;
    }

    private static int[] stake(GlacierCamp camp, int stake) {
        int[] facts = new int[6];
        for (int i = 0; i < 6; i++) {
            facts[i] = camp.stake(stake, i);
        }
        return facts;
    }

    private static int[] crevasse(GlacierCamp camp, int crevasse) {
        int[] facts = new int[6];
        for (int i = 0; i < 6; i++) {
            facts[i] = camp.crevasse(crevasse, i);
        }
        return facts;
    }

    private static int[] team(GlacierCamp camp, int team) {
        int[] facts = new int[8];
        for (int i = 0; i < 8; i++) {
            facts[i] = camp.team(team, i);
        }
        return facts;
    }

    private static void told() {
        GlacierCamp camp = Check.camp("band a height 3 snow 7; band b height 10 snow 8; stake s in b deep 9;"
                + "stake r in a deep 10; stake q in b deep 11; crevasse c above b bridge 12;"
                + "crevasse d above a bridge 13; crevasse e above b bridge 99; depot d in b food 14;"
                + "depot e in a food 15; team t in b size 5 food 16; team u in b size 3 food 17;"
                + "team v in a size 2 food 18;");
        facts("band 0", band(camp, 0), 3, 7, 0, 1, 1, 1);
        facts("band 1", band(camp, 1), 10, 8, 0, 2, 2, 2);
        facts("stake 0", stake(camp, 0), 1, 9, 0, 1, -1, 0);
        facts("stake 1", stake(camp, 1), 0, 10, 0, 1, -1, 0);
        facts("stake 2", stake(camp, 2), 1, 11, 0, 1, -1, 0);
        facts("crevasse 0", crevasse(camp, 0), 1, 12, 0, -1, 0, 0);
        facts("crevasse 1", crevasse(camp, 1), 0, 13, 0, -1, 0, 0);
        Check.due("depot 0", camp.depot(0, 0), 1);
        Check.due("depot 0 food", camp.depot(0, 1), 14);
        Check.due("depot 1", camp.depot(1, 0), 0);
        Check.due("depot 1 food", camp.depot(1, 1), 15);
        facts("team 0", team(camp, 0), 5, 16, 1, 0, 1, 0, 0, 0);
        facts("team 2", team(camp, 2), 2, 18, 0, 0, 1, 0, 0, 0);
    }

    private static void outside() {
        GlacierCamp camp = Check.camp("band a height 3 snow 7; stake s in a deep 9; crevasse c above a bridge 12;"
                + "depot d in a food 14; team t in a size 5 food 16;");
        for (int wrong : new int[] {-1, 1, 8, Integer.MIN_VALUE, Integer.MAX_VALUE, 1 << 29}) {
            Check.dueThrow("band " + wrong, camp, OUTSIDE, () -> camp.band(wrong, 0));
            Check.dueThrow("stake " + wrong, camp, OUTSIDE, () -> camp.stake(wrong, 0));
            Check.dueThrow("crevasse " + wrong, camp, OUTSIDE, () -> camp.crevasse(wrong, 0));
            Check.dueThrow("depot " + wrong, camp, OUTSIDE, () -> camp.depot(wrong, 0));
            Check.dueThrow("team " + wrong, camp, OUTSIDE, () -> camp.team(wrong, 0));
        }
        for (int wrong : new int[] {-1, Integer.MIN_VALUE, Integer.MAX_VALUE}) {
            Check.dueThrow("band what " + wrong, camp, OUTSIDE, () -> camp.band(0, wrong));
            Check.dueThrow("stake what " + wrong, camp, OUTSIDE, () -> camp.stake(0, wrong));
            Check.dueThrow("crevasse what " + wrong, camp, OUTSIDE, () -> camp.crevasse(0, wrong));
            Check.dueThrow("depot what " + wrong, camp, OUTSIDE, () -> camp.depot(0, wrong));
            Check.dueThrow("team what " + wrong, camp, OUTSIDE, () -> camp.team(0, wrong));
        }
        Check.dueThrow("band what 6", camp, OUTSIDE, () -> camp.band(0, 6));
        Check.dueThrow("stake what 6", camp, OUTSIDE, () -> camp.stake(0, 6));
        Check.dueThrow("crevasse what 6", camp, OUTSIDE, () -> camp.crevasse(0, 6));
        Check.dueThrow("depot what 2", camp, OUTSIDE, () -> camp.depot(0, 2));
        Check.dueThrow("team what 8", camp, OUTSIDE, () -> camp.team(0, 8));
    }

    private static void melting() {
        GlacierCamp camp = Check.camp("band a height 4 snow 20; band b height 10 snow 5; band c height 11 snow 5;");
        camp.pass(1);
        facts("18 of 20 melt", band(camp, 0), 4, 2, 0);
        facts("as warm as it is high", band(camp, 1), 10, 5, 0);
        facts("half of 1 is cut", band(camp, 2), 11, 5, 0);
        camp.pass(1);
        facts("the rest comes off the ice", band(camp, 0), 4, 0, 16);
        camp.pass(2);
        facts("all off the ice", band(camp, 0), 4, 0, 52);
    }

    private static void snowing() {
        GlacierCamp camp = Check.camp("band a height 15 snow 297; band b height 20 snow 0; day 3 warm 0;");
        camp.pass(1);
        Check.due("half of 5", camp.band(0, 1), 299);
        Check.due("half of 10", camp.band(1, 1), 5);
        camp.pass(1);
        Check.due("up to 300", camp.band(0, 1), 300);
        camp.pass(2);
        Check.due("no more than 300", camp.band(0, 1), 300);
        Check.due("half of 20", camp.band(1, 1), 25);
        Check.due("no ice is lost", camp.count(8), 0);
    }

    private static void stakes() {
        GlacierCamp camp = Check.camp("band a height 9 snow 299; band b height 20 snow 299; stake s in a deep 6;"
                + "stake r in a deep 7; stake q in b deep 200; day 1 warm 3; day 3 warm 30;"
                + "drill s when day = 4; team t in a size 2 food 40;");
        camp.pass(1);
        facts("3 melt", stake(camp, 0), 0, 6, 3, 1, 3, 1);
        Check.due("at least 0", camp.stake(2, 2), 0);
        Check.due("snow of a is", camp.band(0, 1), 296);
        camp.pass(1);
        facts("3 snow", stake(camp, 0), 0, 6, 0, 1, 0, 2);
        camp.pass(1);
        facts("3 melt again", stake(camp, 1), 0, 7, 3, 1, 3, 3);
        camp.pass(1);
        facts("66 melt: s falls", stake(camp, 0), 0, 6, 66, 0, 3, 3);
        facts("66 melt: r falls", stake(camp, 1), 0, 7, 66, 0, 3, 3);
        facts("30 melt at b", stake(camp, 2), 1, 200, 30, 1, -1, 0);
        Check.due("stakes of a that stand", camp.band(0, 4), 0);
        camp.pass(1);
        facts("drilled anew", stake(camp, 0), 0, 6, 3, 1, 3, 4);
        facts("lies and stays", stake(camp, 1), 0, 7, 66, 0, 3, 3);
        camp.pass(1);
        facts("6 is as deep as it is", stake(camp, 0), 0, 6, 6, 0, 3, 4);
        GlacierCamp full = Check.camp("band a height 18 snow 299; stake s in a deep 90; day 0 warm 20; day 1 warm 0;");
        full.pass(1);
        Check.due("stands out by 6", full.stake(0, 2), 6);
        full.pass(1);
        Check.due("7 of 9 fit on 293", full.band(0, 1), 300);
        Check.due("less by what snows", full.stake(0, 2), 0);
        full.setWarm(2, 21);
        full.setWarm(3, 0);
        full.pass(2);
        Check.due("9 melt, 9 snow", full.stake(0, 2), 0);
        GlacierCamp cap = Check.camp("band a height 10 snow 300; stake s in a deep 90; crevasse c above a bridge 50;"
                + "day 0 warm 11; day 1 warm 0; day 2 warm 13; day 3 warm 0; day 4 warm 0;");
        cap.pass(2);
        Check.due("3 of 5 fit: stake", cap.stake(0, 2), 0);
        Check.due("3 of 5 fit: bridge", cap.crevasse(0, 1), 52);
        cap.pass(1);
        Check.due("9 melt", cap.stake(0, 2), 9);
        cap.pass(2);
        Check.due("5 and 4 snow: stake", cap.stake(0, 2), 0);
        Check.due("5 and 4 snow: bridge", cap.crevasse(0, 1), 58);
    }

    private static void bridges() {
        GlacierCamp camp = Check.camp("band a height 0 snow 0; band b height 20 snow 0; crevasse c above a bridge 15;"
                + "crevasse d above b bridge 96;");
        camp.pass(1);
        Check.due("less by the warmth", camp.crevasse(0, 1), 5);
        Check.due("at most 99", camp.crevasse(1, 1), 99);
        camp.pass(1);
        Check.due("at least 0", camp.crevasse(0, 1), 0);
    }

    private static void eating() {
        GlacierCamp camp = Check.camp("band a height 0 snow 0; band b height 10 snow 0; depot d in b food 9;"
                + "depot e in a food 2; depot f in a food 9; team t in a size 5 food 4; team u in a size 2 food 1;");
        camp.pass(1);
        facts("3 of 4", team(camp, 0), 5, 1, 0, 0, 1);
        facts("1 of 1", team(camp, 1), 2, 0, 0, 0, 1);
        camp.pass(1);
        facts("1 of the sack, 2 of e", team(camp, 0), 5, 0, 0, 0, 1);
        Check.due("e is empty", camp.depot(1, 1), 0);
        Check.due("u eats of f", camp.depot(2, 1), 8);
        camp.pass(2);
        Check.due("4 a day of f", camp.depot(2, 1), 0);
        Check.due("nobody eats of b", camp.depot(0, 1), 9);
        Check.due("t is not hungry", camp.team(0, 3), 0);
    }

    private static void hunger() {
        GlacierCamp camp = Check.camp("band a height 0 snow 0; depot d in a food 0; team t in a size 4 food 3;"
                + "team u in a size 6 food 40; stake s in a deep 200; fill t with 9; descend t when 1 = 1;");
        camp.pass(1);
        facts("fed", team(camp, 0), 4, 1, 0, 0, 1, 1);
        camp.pass(1);
        facts("lacks 1", team(camp, 0), 4, 0, 0, 1, 1, 2);
        camp.pass(1);
        facts("lacks 2", team(camp, 0), 4, 0, 0, 2, 1, 3);
        camp.stock(0, 2);
        camp.pass(1);
        facts("fed anew", team(camp, 0), 4, 0, 0, 0, 1, 4);
        camp.pass(2);
        facts("hungry for 2 days", team(camp, 0), 4, 0, 0, 2, 1, 6);
        Check.due("2 teams", camp.band(0, 3), 2);
        camp.pass(1);
        facts("gone", team(camp, 0), 4, 0, 0, 3, 0, 6);
        Check.due("1 team", camp.band(0, 3), 1);
        Check.due("1 is gone", camp.count(12), 1);
        camp.stock(0, 50);
        camp.pass(1);
        facts("gone for good", team(camp, 0), 4, 0, 0, 3, 0, 6);
        Check.due("it eats nothing, fills nothing", camp.depot(0, 1), 50);
    }

    private static void readings() {
        GlacierCamp camp = Check.camp("band a height 9 snow 0; band b height 10 snow 0; stake s in a deep 9;"
                + "stake r in b deep 9; stake q in a deep 200; team t in a size 2 food 9; team u in a size 2 food 9;");
        Check.due("two stakes, two teams", camp.pass(1), 4);
        facts("s", stake(camp, 0), 0, 9, 3, 1, 3, 2);
        facts("r", stake(camp, 1), 1, 9, 0, 1, -1, 0);
        Check.due("readings of t", camp.team(0, 5), 2);
        Check.due("two more days", camp.pass(2), 6);
        facts("s fell", stake(camp, 0), 0, 9, 9, 0, 6, 4);
        Check.due("readings in all", camp.count(9), 10);
        Check.due("readings of u", camp.team(1, 5), 5);
    }

    /** The sum is filled into the sack, which is empty: what is less than 0 counts 0, more than 40 counts 40. */
    private static void sum(String sum, int due) {
        GlacierCamp camp = Check.camp("band a height 0 snow 33; band b height 12 snow 44; stake s in b deep 60;"
                + "crevasse c above a bridge 70; crevasse d above b bridge 7; depot d in b food 99; depot e in a food 5;"
                + "team t in b size 2 food 0; team u in a size 2 food 13; day 0 warm 12; day 1 warm 14; day 2 warm 12;"
                + "fill t with [SUM] when day = 2;".replace("[SUM]", sum));
        camp.pass(2);
        camp.stock(0, 99);
        camp.pass(1);
        Check.due(sum, camp.team(0, 1), Math.max(0, due - 1));
    }

    private static void sums() {
        sum("day", 2);
        sum("warm", 12);
        sum("snow b", 38);
        sum("snow a", 0);
        sum("out s", 6);
        sum("bridge c / 5", 8);
        sum("bridge d", 5);
        sum("stock d / 10", 19);
        sum("stock e", 5);
        sum("sack u", 11);
        sum("sack t + 3", 3);
        sum("place t", 1);
        sum("place u", 0);
        sum("30 - 10 - 5", 15);
        sum("30 - (10 - 5)", 25);
        sum("2 + 3 * 4", 14);
        sum("(2 + 3) * 4", 20);
        sum("100 / 10 / 5", 2);
        sum("100 / 10 * 3", 30);
        sum("29 / 10", 2);
        sum("0 - 29 / 10 + 20", 18);
        sum("(0 - 29) / 10 + 20", 18);
        sum("- 29 / 10 + 20", 18);
        sum("29 / - 10 + 20", 18);
        sum("5 / 0 + 7", 7);
        sum("- - 9", 9);
        sum("- 9", 0);
        sum("12 - - 9", 21);
        sum("- 3 * - 4", 12);
        sum("- 3 + 10", 7);
        sum("min(9, 5)", 5);
        sum("min(- 9, 5) + 20", 11);
        sum("max(9, 5 + 6)", 11);
        sum("max(- 9, - 5) + 20", 15);
        sum("41", 40);
        sum("999999", 40);
        sum("65536 * 65536 + 7", 7);
        sum("65536 * 32768", 0);
        sum("65536 * 32768 - 1 - 65536 * 32767 - 65500", 35);
        sum("(65536 * 32768) / - 1 + 65536 * 32767 + 65536 + 4", 4);
        sum("- (65536 * 32768) + 65536 * 32767 + 65536 + 4", 4);
        sum("(65536 * 32768 - 1) / 65536 - 32760", 7);
    }

    private static void test(String test, boolean due) {
        GlacierCamp camp = Check.camp("band a height 0 snow 0; band b height 10 snow 0; stake s in a deep 30;"
                + "stake r in b deep 3; crevasse c above a bridge 70; crevasse d above b bridge 7; depot d in b food 99;"
                + "team t in b size 2 food 0; team u in a size 6 food 0; probe d by t when day = 1;"
                + "fill t with 9 when day = 3 and [TEST];".replace("TEST", test));
        camp.pass(4);
        Check.due(test, camp.team(0, 1) == 8, due);
    }

    private static void tests() {
        test("1 < 2", true);
        test("2 < 2", false);
        test("3 < 2", false);
        test("1 > 2", false);
        test("2 > 2", false);
        test("3 > 2", true);
        test("1 = 2", false);
        test("2 = 2", true);
        test("1 <= 2", true);
        test("2 <= 2", true);
        test("3 <= 2", false);
        test("1 >= 2", false);
        test("2 >= 2", true);
        test("3 >= 2", true);
        test("- 1 < 0", true);
        test("standing r", true);
        test("standing s", false);
        test("here t", true);
        test("here u", false);
        test("known d", true);
        test("known c", false);
        test("not here u", true);
        test("not here t", false);
        test("not not here u", false);
        test("not here t and here u", false);
        test("not [here t and here u]", true);
        test("not here u or here t", true);
        test("here t or here u and here u", true);
        test("[here t or here u] and here u", false);
        test("here u and here u or here t", true);
        test("here u and [here u or here t]", false);
        test("here u or here u or here t", true);
        test("here t and here t and here u", false);
        test("1 + 1 = 2 and 2 * 2 > 3", true);
    }

    /** An order sees what those told ahead of it did on this day; what does not come about is not counted. */
    private static void ordersInTurn() {
        GlacierCamp camp = Check.camp("band a height 0 snow 0; band b height 10 snow 0; crevasse c above a bridge 99;"
                + "stake s in a deep 9; depot d in a food 9; depot e in b food 4; team t in a size 2 food 0;"
                + "climb t when stock d < 9; fill t with 3; climb t when stock d = 6 and not known c;"
                + "probe c by t when 1 = 1; fill t with 2 when place t = 1; descend t when 1 = 1; drill s when 1 = 1;");
        camp.pass(1);
        Check.due("fill, climb, fill", camp.count(11), 3);
        facts("team", team(camp, 0), 2, 4, 1, 0, 1, 0, 0, 0);
        Check.due("not probed", camp.crevasse(0, 3), -1);
        Check.due("d", camp.depot(0, 1), 6);
        Check.due("e", camp.depot(1, 1), 2);
        camp.pass(1);
        // Now: climb cannot (no band), fill 2 of e, climb cannot, probe, fill nothing (e is empty), drill not.
        Check.due("fill, probe", camp.count(11), 5);
        Check.due("probed", camp.crevasse(0, 3), 89);
        Check.due("known", camp.crevasse(0, 2), 1);
        camp.pass(1);
        // climb cannot, fill cannot, probe; s lies in a, where nobody is.
        Check.due("probe", camp.count(11), 6);
        Check.due("s lies", camp.stake(0, 3), 0);
        GlacierCamp drilled = Check.camp("band a height 0 snow 0; stake s in a deep 9; stake r in a deep 200;"
                + "depot d in a food 1; team t in a size 2 food 0; drill s when 1 = 1; drill r when 1 = 1; fill t with 3;");
        drilled.pass(1);
        Check.due("fill of the last food", drilled.count(11), 1);
        drilled.pass(1);
        Check.due("drill of s, which lies", drilled.count(11), 2);
        Check.due("s fell again", drilled.stake(0, 2), 30);
        Check.due("r still stands", drilled.stake(1, 2), 60);
        GlacierCamp not = Check.camp("band a height 0 snow 0; depot d in a food 9; team t in a size 2 food 0;"
                + "fill t with 3 when not here t; fill t with 1 when not not here t;");
        not.pass(1);
        Check.due("only the second one", not.depot(0, 1), 8);
    }
}
