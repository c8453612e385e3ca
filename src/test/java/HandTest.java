/** Promises 12 to 16: go, probe, fill, stock and setWarm. */
public final class HandTest {
    private static final Class<IndexOutOfBoundsException> OUTSIDE = IndexOutOfBoundsException.class;
    private static final Class<IllegalArgumentException> BAD = IllegalArgumentException.class;
    private static final Class<IllegalStateException> CANNOT = IllegalStateException.class;
    private static final int[] WRONG_NUMBERS = {-1, 4, Integer.MIN_VALUE, Integer.MAX_VALUE, 1 << 29, 1 << 28};

    public static void main(String[] args) {
        going();
        falling();
        known();
        probing();
        filling();
        stocking();
        warming();
        goneTeams();
        Check.end();
    }

    private static void going() {
        GlacierCamp camp = Check.camp("band a height 0 snow 0; band b height 5 snow 0; band e height 10 snow 0;"
                + "crevasse c above a bridge 48; crevasse d above b bridge 99; crevasse f above a bridge 99;"
                + "team t in a size 6 food 20; team u in e size 2 food 20; team v in b size 2 food 20;");
        Check.dueThrow("below all", camp, CANNOT, () -> camp.go(0, false));
        Check.dueThrow("above all", camp, CANNOT, () -> camp.go(1, true));
        Check.due("48 bears 6", camp.go(0, true), 1);
        Check.due("band", camp.team(0, 2), 1);
        Check.due("done", camp.team(0, 7), 1);
        Check.due("over c", camp.crevasse(0, 4), 1);
        Check.due("not over d", camp.crevasse(1, 4), 0);
        Check.due("over f", camp.crevasse(2, 4), 1);
        Check.due("no order", camp.count(11), 0);
        Check.due("sack", camp.team(0, 1), 20);
        Check.dueThrow("twice a day up", camp, CANNOT, () -> camp.go(0, true));
        Check.dueThrow("twice a day down", camp, CANNOT, () -> camp.go(0, false));
        Check.dueThrow("probe behind go", camp, CANNOT, () -> camp.probe(0, 0));
        Check.due("down from the top", camp.go(1, false), 1);
        Check.due("over d", camp.crevasse(1, 4), 1);
        Check.due("down to a", camp.go(2, false), 0);
        Check.due("over c again", camp.crevasse(0, 4), 2);
        Check.due("teams of b", camp.band(1, 3), 2);
        camp.pass(1);
        Check.due("not done", camp.team(0, 7), 0);
        Check.due("down again", camp.go(1, false), 0);
        Check.due("over c a third time", camp.crevasse(0, 4), 3);
        for (int wrong : WRONG_NUMBERS) {
            Check.dueThrow("team " + wrong, camp, OUTSIDE, () -> camp.go(wrong, true));
        }
        Check.dueThrow("team 3", camp, OUTSIDE, () -> camp.go(3, false));
    }

    private static void falling() {
        String list = "band a height 10 snow 0; band b height 11 snow 0; crevasse c above a bridge 40;"
                + "crevasse d above a bridge 15; crevasse e above a bridge 31; crevasse f above b bridge 0;"
                + "team t in a size 4 food 7; team u in b size 4 food 8; team v in a size 5 food 1;";
        GlacierCamp camp = Check.camp(list);
        Check.due("t falls into d", camp.go(0, true), 0);
        Check.due("its bridge", camp.crevasse(1, 1), 0);
        Check.due("fell at d", camp.crevasse(1, 5), 1);
        Check.due("fell at e", camp.crevasse(2, 5), 0);
        Check.due("went over c", camp.crevasse(0, 4), 0);
        Check.due("4 of 7 are lost", camp.team(0, 1), 3);
        Check.due("falls of t", camp.team(0, 6), 1);
        Check.due("falls", camp.count(10), 1);
        Check.due("done", camp.team(0, 7), 1);
        Check.due("not known", camp.crevasse(1, 2), 0);
        Check.due("not probed", camp.crevasse(1, 3), -1);
        Check.due("u falls into e, the last one", camp.go(1, false), 1);
        Check.due("bridge of e", camp.crevasse(2, 1), 0);
        Check.due("4 of 8 are lost", camp.team(1, 1), 4);
        Check.due("v falls into d", camp.go(2, true), 0);
        Check.due("fell at d", camp.crevasse(1, 5), 2);
        Check.due("1 of 1 is lost", camp.team(2, 1), 0);
        Check.due("falls", camp.count(10), 3);
        Check.dueThrow("t has done its thing", camp, CANNOT, () -> camp.go(0, true));
        GlacierCamp weak = Check.camp("band a height 10 snow 0; band b height 11 snow 0; crevasse c above a bridge 39;"
                + "crevasse d above a bridge 40; team t in a size 5 food 0; climb t when day = 0;");
        weak.pass(1);
        Check.due("39 does not bear 5", weak.crevasse(0, 5), 1);
        Check.due("40 does", weak.crevasse(1, 5), 0);
        Check.due("a team that falls has carried it out", weak.count(11), 1);
        Check.due("in a", weak.team(0, 2), 0);
    }

    private static void known() {
        GlacierCamp camp = Check.camp("band a height 10 snow 0; band b height 11 snow 0; crevasse c above a bridge 20;"
                + "crevasse d above a bridge 99; team t in a size 3 food 40; team u in b size 2 food 40;"
                + "team v in b size 3 food 40;");
        Check.due("probe", camp.probe(0, 0), 20);
        Check.due("known", camp.crevasse(0, 2), 1);
        Check.due("2 can go over 20", camp.go(1, false), 0);
        Check.dueThrow("3 cannot", camp, CANNOT, () -> camp.go(2, false));
        camp.pass(1);
        Check.due("known on the next day", camp.crevasse(0, 2), 1);
        Check.dueThrow("t cannot", camp, CANNOT, () -> camp.go(0, true));
        camp.pass(1);
        Check.due("known on the day behind that", camp.crevasse(0, 2), 1);
        Check.dueThrow("v cannot", camp, CANNOT, () -> camp.go(2, false));
        Check.due("d is not known", camp.crevasse(1, 2), 0);
        camp.pass(1);
        Check.due("not known any more", camp.crevasse(0, 2), 0);
        Check.due("as it was probed", camp.crevasse(0, 3), 20);
        Check.due("t can, and falls", camp.go(0, true), 0);
        Check.due("bridge", camp.crevasse(0, 1), 0);
        camp.pass(1);
        Check.due("u probes", camp.probe(1, 0), 0);
        Check.due("probed with 0", camp.crevasse(0, 3), 0);
        camp.pass(2);
        Check.due("t probes again", camp.probe(0, 0), 0);
        camp.pass(2);
        Check.due("known from anew", camp.crevasse(0, 2), 1);
        camp.pass(1);
        Check.due("and no more", camp.crevasse(0, 2), 0);
    }

    private static void probing() {
        GlacierCamp camp = Check.camp("band a height 10 snow 0; band b height 11 snow 0; band f height 12 snow 0;"
                + "crevasse c above a bridge 20; crevasse d above b bridge 30; crevasse e above f bridge 40;"
                + "team t in b size 3 food 40; team u in a size 2 food 40; team v in f size 3 food 40;");
        Check.dueThrow("d from a", camp, CANNOT, () -> camp.probe(1, 1));
        Check.dueThrow("e from b", camp, CANNOT, () -> camp.probe(0, 2));
        Check.dueThrow("c from f", camp, CANNOT, () -> camp.probe(2, 0));
        Check.due("c from b", camp.probe(0, 0), 20);
        Check.due("done", camp.team(0, 7), 1);
        Check.dueThrow("twice a day", camp, CANNOT, () -> camp.probe(0, 1));
        Check.dueThrow("go behind probe", camp, CANNOT, () -> camp.go(0, true));
        Check.due("c from a", camp.probe(1, 0), 20);
        Check.due("e from f", camp.probe(2, 2), 40);
        Check.due("no order", camp.count(11), 0);
        camp.pass(1);
        Check.due("d from b", camp.probe(0, 1), 30);
        Check.due("d from f", camp.probe(2, 1), 30);
        for (int wrong : WRONG_NUMBERS) {
            Check.dueThrow("team " + wrong, camp, OUTSIDE, () -> camp.probe(wrong, 0));
            Check.dueThrow("crevasse " + wrong, camp, OUTSIDE, () -> camp.probe(0, wrong));
        }
        Check.dueThrow("crevasse 3 behind done", camp, OUTSIDE, () -> camp.probe(0, 3));
        Check.dueThrow("team 3", camp, OUTSIDE, () -> camp.probe(3, 0));
    }

    private static void filling() {
        GlacierCamp camp = Check.camp("band a height 10 snow 0; band b height 11 snow 0; depot d in b food 50;"
                + "depot e in a food 0; depot f in a food 9; depot g in a food 70; team t in a size 3 food 5;"
                + "team u in b size 2 food 39;");
        Check.due("4 of f", camp.fill(0, 4), 4);
        Check.due("sack", camp.team(0, 1), 9);
        Check.due("f", camp.depot(2, 1), 5);
        Check.due("no more than f has", camp.fill(0, 40), 5);
        Check.due("then g", camp.fill(0, 6), 6);
        Check.due("what there is room for", camp.fill(0, 40), 20);
        Check.due("sack", camp.team(0, 1), 40);
        Check.due("g", camp.depot(3, 1), 44);
        Check.due("d", camp.depot(0, 1), 50);
        Check.due("not done by that", camp.team(0, 7), 0);
        Check.due("no order", camp.count(11), 0);
        Check.dueThrow("full", camp, CANNOT, () -> camp.fill(0, 1));
        Check.dueThrow("full, and 0", camp, BAD, () -> camp.fill(0, 0));
        Check.dueThrow("41", camp, BAD, () -> camp.fill(1, 41));
        Check.dueThrow("-1", camp, BAD, () -> camp.fill(1, -1));
        Check.dueThrow("the least int", camp, BAD, () -> camp.fill(1, Integer.MIN_VALUE));
        Check.dueThrow("team 2, and 0", camp, OUTSIDE, () -> camp.fill(2, 0));
        Check.due("room for 1", camp.fill(1, 40), 1);
        for (int wrong : WRONG_NUMBERS) {
            Check.dueThrow("team " + wrong, camp, OUTSIDE, () -> camp.fill(wrong, 1));
        }
        GlacierCamp empty = Check.camp("band a height 10 snow 0; band b height 11 snow 0; depot d in b food 50;"
                + "depot e in a food 0; team t in a size 3 food 5;");
        Check.dueThrow("no depot has any", empty, CANNOT, () -> empty.fill(0, 1));
        empty.stock(1, 3);
        Check.due("now it has", empty.fill(0, 40), 3);
    }

    private static void stocking() {
        GlacierCamp camp = Check.camp("band a height 10 snow 0; depot d in a food 99; depot e in a food 0;");
        Check.due("1", camp.stock(1, 1), 1);
        Check.due("200", camp.stock(0, 200), 299);
        camp.stock(0, 200);
        camp.stock(0, 200);
        camp.stock(0, 200);
        Check.due("999 in all", camp.stock(0, 100), 999);
        Check.due("more is lost", camp.stock(0, 1), 999);
        Check.due("depot(0, 1)", camp.depot(0, 1), 999);
        Check.due("depot(1, 1)", camp.depot(1, 1), 1);
        Check.due("count(7)", camp.count(7), 1000);
        Check.dueThrow("0", camp, BAD, () -> camp.stock(1, 0));
        Check.dueThrow("201", camp, BAD, () -> camp.stock(1, 201));
        Check.dueThrow("the least int", camp, BAD, () -> camp.stock(1, Integer.MIN_VALUE));
        Check.dueThrow("depot 2, and 0", camp, OUTSIDE, () -> camp.stock(2, 0));
        for (int wrong : WRONG_NUMBERS) {
            Check.dueThrow("depot " + wrong, camp, OUTSIDE, () -> camp.stock(wrong, 1));
        }
    }

    private static void warming() {
        GlacierCamp camp = Check.camp("day 3 warm 7; day 0 warm 1; day 0 warm 2;");
        Check.due("the latest counts", camp.setWarm(0, 30), 2);
        Check.due("the one before", camp.setWarm(0, 0), 30);
        Check.due("count(13)", camp.count(13), 0);
        Check.due("day 3", camp.setWarm(3, 8), 7);
        Check.due("day 7", camp.setWarm(7, 9), 10);
        Check.due("day 7 again", camp.setWarm(7, 9), 9);
        camp.pass(3);
        Check.due("on day 3", camp.count(13), 8);
        camp.pass(4);
        Check.due("on day 7", camp.count(13), 9);
        camp.pass(1);
        Check.due("on day 8", camp.count(13), 0);
        Check.dueThrow("day -1", camp, OUTSIDE, () -> camp.setWarm(-1, 5));
        Check.dueThrow("day 8", camp, OUTSIDE, () -> camp.setWarm(8, 5));
        Check.dueThrow("day 8, warm 31", camp, OUTSIDE, () -> camp.setWarm(8, 31));
        Check.dueThrow("warm 31", camp, BAD, () -> camp.setWarm(1, 31));
        Check.dueThrow("warm -1", camp, BAD, () -> camp.setWarm(1, -1));
        Check.due("day 1", camp.setWarm(1, 5), 10);
    }

    private static void goneTeams() {
        GlacierCamp camp = Check.camp("band a height 10 snow 0; band b height 11 snow 0; crevasse c above a bridge 99;"
                + "team t in a size 3 food 0; depot d in a food 0; stake s in a deep 1; day 3 warm 11;"
                + "climb t when day > 2; probe c by t when day > 2; fill t with 1; drill s when 1 = 1;");
        camp.pass(3);
        camp.stock(0, 9);
        Check.due("gone", camp.team(0, 4), 0);
        Check.dueThrow("go", camp, CANNOT, () -> camp.go(0, true));
        Check.dueThrow("probe", camp, CANNOT, () -> camp.probe(0, 0));
        Check.dueThrow("fill", camp, CANNOT, () -> camp.fill(0, 1));
        Check.dueThrow("fill 0", camp, BAD, () -> camp.fill(0, 0));
        Check.dueThrow("advise", camp, CANNOT, () -> camp.advise(0, 1));
        Check.due("safe", camp.safe(0, true), false);
        camp.pass(2);
        Check.due("no order", camp.count(11), 0);
        Check.due("the stake lies", camp.stake(0, 3), 0);
    }
}
