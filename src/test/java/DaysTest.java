/** Promises 17 to 24: pass, melt, until, foresee, safe, advise, mean and digest. */
public final class DaysTest {
    private static final Class<IndexOutOfBoundsException> OUTSIDE = IndexOutOfBoundsException.class;
    private static final Class<IllegalArgumentException> BAD = IllegalArgumentException.class;
    private static final int[] WRONG_NUMBERS = {-1, 4, 6, Integer.MIN_VALUE, Integer.MAX_VALUE, 1 << 29};

    public static void main(String[] args) {
        passing();
        melting();
        falling();
        foreseeing();
        safety();
        advice();
        adviceWithFalls();
        means();
        digests();
        Check.end();
    }

    private static void passing() {
        GlacierCamp camp = Check.camp("band a height 9 snow 300; stake s in a deep 200; team t in a size 2 food 40;");
        Check.due("60 days", camp.pass(60), 42);
        Check.due("count(0)", camp.count(0), 60);
        Check.due("nobody reads", camp.pass(1), 0);
        Check.due("count(0)", camp.count(0), 61);
        Check.dueThrow("0", camp, BAD, () -> camp.pass(0));
        Check.dueThrow("61", camp, BAD, () -> camp.pass(61));
        Check.dueThrow("-1", camp, BAD, () -> camp.pass(-1));
        Check.dueThrow("the least int", camp, BAD, () -> camp.pass(Integer.MIN_VALUE));
        GlacierCamp bare = new GlacierCamp();
        Check.due("without anything", bare.pass(60), 0);
        Check.due("its day", bare.count(0), 60);
    }

    private static void melting() {
        GlacierCamp camp = Check.camp("band a height 3 snow 0; band b height 12 snow 300; day 1 warm 14; day 2 warm 0;"
                + "day 7 warm 3;");
        Check.due("1 day", camp.melt(0, 1), 21);
        Check.due("2 days", camp.melt(0, 2), 21 + 33);
        Check.due("3 days, one is cold", camp.melt(0, 3), 54);
        Check.due("8 days", camp.melt(0, 8), 54 + 4 * 21);
        Check.due("9 days", camp.melt(0, 9), 54 + 5 * 21);
        Check.due("60 days", camp.melt(0, 60), 7 * (54 + 4 * 21) + 54 + 21);
        Check.due("b, 1 day", camp.melt(1, 1), 0);
        Check.due("b, 60 days", camp.melt(1, 60), 8 * 6);
        camp.pass(1);
        Check.due("from day 1 on", camp.melt(0, 1), 33);
        camp.setWarm(1, 20);
        Check.due("warmer", camp.melt(0, 1), 51);
        Check.due("count(0)", camp.count(0), 1);
        for (int wrong : WRONG_NUMBERS) {
            Check.dueThrow("band " + wrong, camp, OUTSIDE, () -> camp.melt(wrong, 1));
        }
        Check.dueThrow("band 2, 0 days", camp, OUTSIDE, () -> camp.melt(2, 0));
        Check.dueThrow("0 days", camp, BAD, () -> camp.melt(0, 0));
        Check.dueThrow("61 days", camp, BAD, () -> camp.melt(0, 61));
        Check.dueThrow("-1 days", camp, BAD, () -> camp.melt(0, -1));
    }

    private static void falling() {
        GlacierCamp camp = Check.camp("band a height 9 snow 300; band b height 10 snow 0; stake s in a deep 3;"
                + "stake r in a deep 4; stake q in a deep 200; stake p in b deep 1; team t in a size 2 food 40;"
                + "drill s when day = 4; drill r when day = 5;");
        long before = camp.digest();
        Check.due("s", camp.until(0), 1);
        Check.due("r", camp.until(1), 2);
        Check.due("q", camp.until(2), 67);
        Check.due("p", camp.until(3), -1);
        Check.due("digest()", camp.digest(), before);
        camp.pass(1);
        Check.due("s lies", camp.until(0), 0);
        Check.due("r", camp.until(1), 1);
        camp.setWarm(1, 8);
        Check.due("r, one day is colder", camp.until(1), 2);
        for (int wrong : WRONG_NUMBERS) {
            Check.dueThrow("stake " + wrong, camp, OUTSIDE, () -> camp.until(wrong));
        }
        GlacierCamp edge = Check.camp("band a height 9 snow 300; stake s in a deep 111; stake r in a deep 112;"
                + "day 0 warm 0; day 1 warm 0; day 2 warm 0; day 3 warm 0; day 4 warm 25; day 5 warm 10; day 6 warm 9;"
                + "day 7 warm 9;");
        // 48 + 3 melt in a week; all weeks but the first begin with 4 days on which 4 snow.
        Check.due("51, 86, 118 on day 20", edge.until(0), 21);
        Check.due("112", edge.until(1), 21);
        GlacierCamp late = Check.camp("band a height 0 snow 0; stake s in a deep 100; stake r in a deep 99;"
                + "stake q in a deep 98; day 0 warm 0; day 1 warm 0; day 2 warm 1; day 3 warm 0; day 4 warm 0;"
                + "day 5 warm 0; day 6 warm 0; day 7 warm 0;");
        // 3 a week: behind day 98 the 13th time, so 39 by then.
        Check.due("39 by 99 days", late.until(0), -1);
        late.setWarm(2, 2);
        Check.due("78 by 99 days", late.until(2), -1);
        late.setWarm(1, 1);
        late.setWarm(3, 0);
        Check.due("9 a week: 98", late.until(2), 83);
        GlacierCamp last = Check.camp("band a height 0 snow 0; stake s in a deep 38; stake r in a deep 40;"
                + "day 0 warm 0; day 1 warm 0; day 2 warm 1; day 3 warm 0; day 4 warm 0; day 5 warm 0; day 6 warm 0;"
                + "day 7 warm 0;");
        Check.due("on the 99th day", last.until(0), 99);
        Check.due("not by the 99th day", last.until(1), -1);
        GlacierCamp next = Check.camp("band a height 0 snow 0; stake s in a deep 38; day 0 warm 0; day 1 warm 0;"
                + "day 2 warm 0; day 3 warm 1; day 4 warm 0; day 5 warm 0; day 6 warm 0; day 7 warm 0;");
        Check.due("only on the 100th day", next.until(0), -1);
        next.pass(1);
        Check.due("now on the 99th", next.until(0), 99);
        last.pass(1);
        Check.due("98 days", last.until(0), 98);
        Check.due("on the 106th day", last.until(1), -1);
    }

    private static void foreseeing() {
        String list = "band a height 9 snow 5; band b height 12 snow 300; stake s in a deep 9; stake r in b deep 20;"
                + "crevasse c above a bridge 30; depot d in a food 60; team t in a size 4 food 10;"
                + "team u in b size 3 food 6; climb t when day = 1; descend t when day = 4; fill t with 12 when day > 3;"
                + "drill s when day = 6; probe c by u when day = 7;";
        for (int days = 1; days <= 60; days++) {
            GlacierCamp camp = Check.camp(list);
            int[] foreseen = new int[13];
            long before = camp.digest();
            for (int what = 7; what <= 12; what++) {
                foreseen[what] = camp.foresee(days, what);
            }
            Check.due("digest()", camp.digest(), before);
            camp.pass(days);
            for (int what = 7; what <= 12; what++) {
                Check.due("foresee(" + days + ", " + what + ")", foreseen[what], camp.count(what));
            }
        }
        GlacierCamp camp = Check.camp(list);
        Check.due("food", camp.foresee(1, 7), 60);
        Check.due("ice", camp.foresee(3, 8), 4);
        Check.due("readings", camp.foresee(1, 9), 2);
        Check.due("falls", camp.foresee(2, 10), 1);
        Check.due("orders", camp.foresee(2, 11), 1);
        Check.due("gone", camp.foresee(7, 12), 1);
        Check.due("none gone", camp.foresee(5, 12), 0);
        Check.dueThrow("0 days", camp, BAD, () -> camp.foresee(0, 7));
        Check.dueThrow("61 days, 13", camp, BAD, () -> camp.foresee(61, 13));
        Check.dueThrow("-1 days", camp, BAD, () -> camp.foresee(-1, 7));
        Check.dueThrow("what 6", camp, OUTSIDE, () -> camp.foresee(1, 6));
        Check.dueThrow("what 13", camp, OUTSIDE, () -> camp.foresee(60, 13));
        Check.dueThrow("what -1", camp, OUTSIDE, () -> camp.foresee(60, -1));
    }

    private static void safety() {
        GlacierCamp camp = Check.camp("band a height 10 snow 0; band b height 11 snow 0; crevasse c above a bridge 24;"
                + "crevasse d above b bridge 0; crevasse e above a bridge 30; team t in a size 3 food 40;"
                + "team u in b size 4 food 40; team v in b size 3 food 40;");
        long before = camp.digest();
        Check.due("24 bears 3", camp.safe(0, true), true);
        Check.due("no band below", camp.safe(0, false), false);
        Check.due("24 does not bear 4", camp.safe(1, false), false);
        Check.due("no band above", camp.safe(1, true), false);
        Check.due("down", camp.safe(2, false), true);
        Check.due("digest()", camp.digest(), before);
        camp.probe(0, 0);
        Check.due("done", camp.safe(0, true), false);
        Check.due("known, but strong", camp.safe(2, false), true);
        for (int wrong : WRONG_NUMBERS) {
            Check.dueThrow("team " + wrong, camp, OUTSIDE, () -> camp.safe(wrong, true));
        }
        Check.dueThrow("team 3", camp, OUTSIDE, () -> camp.safe(3, false));
        for (int weak = 0; weak < 3; weak++) {
            String bridges = "crevasse c above a bridge 16; crevasse d above a bridge 16; crevasse e above a bridge 16;";
            int at = bridges.indexOf("16", 28 * weak + 20);
            String list = "band a height 10 snow 0; band b height 11 snow 0;" + bridges.substring(0, at) + "15"
                    + bridges.substring(at + 2) + "team t in a size 2 food 40; team u in b size 2 food 40;";
            Check.due("up over a weak one", Check.camp(list).safe(0, true), false);
            Check.due("down over a weak one", Check.camp(list).safe(1, false), false);
        }
    }

    private static void advice() {
        // b has two stakes, a one, e none.
        String list = "band a height 10 snow 0; band b height 11 snow 0; band e height 12 snow 0; stake s in b deep 99;"
                + "stake r in b deep 99; stake q in a deep 99; team t in a size 2 food 40; team u in b size 2 food 40;"
                + "team v in e size 2 food 40;";
        GlacierCamp camp = Check.camp(list);
        long before = camp.digest();
        Check.due("t climbs", camp.advise(0, 1), 1);
        Check.due("u stays", camp.advise(1, 40), 0);
        Check.due("v descends", camp.advise(2, 3), 2);
        Check.due("digest()", camp.digest(), before);
        camp.go(0, true);
        Check.due("t has done its thing", camp.advise(0, 5), 0);
        camp.go(2, false);
        camp.pass(1);
        Check.due("t is best off", camp.advise(0, 5), 0);
        GlacierCamp led = Check.camp(list + "climb t when day = 1; descend u when day = 1; descend v when day = 1;");
        Check.due("t would be led too far", led.advise(0, 2), 0);
        Check.due("v gains a day", led.advise(2, 2), 2);
        Check.due("u would be led down", led.advise(1, 2), 0);
        led.pass(1);
        Check.due("what is ordered need not be done", led.advise(0, 1), 0);
        GlacierCamp back = Check.camp(list + "descend u when day > 0;");
        Check.due("2 + 1 + 1 is more than 0 + 2 + 1", back.advise(1, 3), 0);
        GlacierCamp early = Check.camp(list + "descend u when day < 2;");
        Check.due("1 each day are less than 0 + 2 + 2 ..", early.advise(1, 9), 1);
        GlacierCamp equal = Check.camp("band a height 10 snow 0; band b height 11 snow 0; band e height 12 snow 0;"
                + "stake s in a deep 99; stake r in e deep 99; team t in b size 2 food 40;");
        Check.due("of several the smallest", equal.advise(0, 7), 1);
        GlacierCamp nothing = Check.camp("band a height 10 snow 0; team t in a size 2 food 40;");
        Check.due("none at all", nothing.advise(0, 40), 0);
        for (int wrong : WRONG_NUMBERS) {
            Check.dueThrow("team " + wrong, camp, OUTSIDE, () -> camp.advise(wrong, 1));
        }
        Check.dueThrow("team 3, 0 days", camp, OUTSIDE, () -> camp.advise(3, 0));
        Check.dueThrow("0 days", camp, BAD, () -> camp.advise(0, 0));
        Check.dueThrow("41 days", camp, BAD, () -> camp.advise(0, 41));
        Check.dueThrow("-1 days", camp, BAD, () -> camp.advise(0, -1));
        GlacierCamp gone = Check.camp("band a height 10 snow 0; team t in a size 2 food 0;");
        gone.pass(3);
        Check.dueThrow("gone", gone, IllegalStateException.class, () -> gone.advise(0, 40));
        Check.dueThrow("gone, and 41 days", gone, BAD, () -> gone.advise(0, 41));
    }

    /** Only its own readings count, and it may fall by what it does, even to its good. */
    private static void adviceWithFalls() {
        GlacierCamp camp = Check.camp("band a height 10 snow 0; band b height 11 snow 0; crevasse c above a bridge 15;"
                + "stake s in a deep 99; stake r in b deep 99; stake q in b deep 99; team t in a size 2 food 40;"
                + "team u in a size 2 food 1;");
        Check.due("it would fall, and read the same", camp.advise(0, 5), 0);
        GlacierCamp held = Check.camp("band a height 10 snow 0; band b height 11 snow 0; crevasse c above b bridge 15;"
                + "band e height 12 snow 0; stake s in b deep 99; team t in b size 2 food 40;"
                + "descend t when day = 0 or bridge c > 0;");
        Check.due("a fall holds it where it reads", held.advise(0, 4), 1);
        GlacierCamp own = Check.camp("band z height 9 snow 0; band a height 10 snow 0; band b height 11 snow 0;"
                + "stake m in a deep 99; stake n in a deep 99; stake p in b deep 99; stake q in b deep 99;"
                + "stake r in b deep 99; team t in a size 2 food 40; team u in a size 2 food 40;"
                + "descend u when place t = 2;");
        Check.due("2 + 2 are more than 3 + 0, but not for t", own.advise(0, 6), 1);
    }

    private static void means() {
        Check.due("one band", Check.camp("band a height 10 snow 7;").mean(), 7.0);
        Check.due("two bands", Check.camp("band a height 10 snow 7; band b height 11 snow 8;").mean(), 7.5);
        GlacierCamp camp = Check.camp("band a height 9 snow 5; band b height 10 snow 1; band c height 12 snow 299;");
        Check.due("three bands", camp.mean(), 305.0 / 3);
        camp.pass(1);
        Check.due("then", camp.mean(), 303.0 / 3);
        Check.due("none", new GlacierCamp().mean(), 0.0);
    }

    private static void digests() {
        GlacierCamp camp = new GlacierCamp();
        long d = 907;
        for (int what = 0; what <= 14; what++) {
            d = d * 31 + (what == 13 ? 10 : 0);
        }
        Check.due("of nothing", camp.digest(), d);
        Check.due("teach", Check.teach(camp, "band a height 9 snow 5; band b height 12 snow 300; stake s in a deep 9;"
                + "stake r in b deep 20; crevasse c above a bridge 30; crevasse e above b bridge 30;"
                + "depot d in a food 60; depot f in b food 1; team t in a size 4 food 10; team u in b size 3 food 6;"
                + "climb t when day = 1; probe c by u when 1 = 1;"), 0);
        camp.pass(2);
        Check.feed(camp, "xyz");
        camp.go(1, false);
        Check.due("of a camp", camp.digest(), digestOf(camp));
        camp.pass(7);
        Check.due("later", camp.digest(), digestOf(camp));
    }

    private static long digestOf(GlacierCamp camp) {
        long d = 907;
        for (int what = 0; what <= 14; what++) {
            d = d * 31 + camp.count(what);
        }
        for (int i = 0; i < camp.count(1); i++) {
            for (int what = 0; what <= 5; what++) {
                d = d * 31 + camp.band(i, what);
            }
        }
        for (int i = 0; i < camp.count(2); i++) {
            for (int what = 0; what <= 5; what++) {
                d = d * 31 + camp.stake(i, what);
            }
        }
        for (int i = 0; i < camp.count(3); i++) {
            for (int what = 0; what <= 5; what++) {
                d = d * 31 + camp.crevasse(i, what);
            }
        }
        for (int i = 0; i < camp.count(4); i++) {
            for (int what = 0; what <= 1; what++) {
                d = d * 31 + camp.depot(i, what);
            }
        }
        for (int i = 0; i < camp.count(5); i++) {
            for (int what = 0; what <= 7; what++) {
                d = d * 31 + camp.team(i, what);
            }
        }
        return d;
    }
}
