/** Promises 4 and 5: teach and errorAt; the tokens, the grammar, the depth and the errors. */
public final class TeachTest {
    private static final String CAMP = "band lo height 2 snow 30; band hi height 9 snow 5; stake s in lo deep 50; "
            + "crevasse c above lo bridge 60; depot d in lo food 9; team t in lo size 2 food 5; ";

    public static void main(String[] args) {
        tokens();
        wrongTokens();
        ends();
        grammar();
        depth();
        manyTokens();
        names();
        limits();
        ranges();
        firstError();
        places();
        Check.end();
    }

    private static void error(int error, String marked) {
        Check.error(error, marked);
    }

    private static void good(String text) {
        Check.good(text);
    }

    private static String lines(String line, int many) {
        return Check.lines(line, many);
    }

    private static void tokens() {
        good("");
        good(" \n \n");
        good("band a height 0 snow 0;");
        good("\n\nband\na\nheight\n0\nsnow\n0\n;\n");
        good("band a height 0 snow 0;band b height 1 snow 0;");
        good("band abcdefghij height 000020 snow 000300;");
        good("band a1b2c3d4e5 height 0snow 0;");
        good("band bands height 0 snow 0; band heights height 1snow 2;");
        good("band day1 height 0 snow 0; stake nota in day1 deep 1;");
        good(CAMP + "climb t when 1<=2and 2>=1;");
        good(CAMP + "climb t when(1)<(2);");
        good(CAMP + "climb t when[not[1=1]];");
        error(1, CAMP + "climb t when 1 @! = 1;");
    }

    private static void wrongTokens() {
        error(1, "band @abcdefghijk height 0 snow 0;");
        error(1, "band a height @0000001 snow 0;");
        error(1, "@bandaheight0snow0;");
        error(1, "band a height @1234567snow 0;");
        error(1, "@Band a height 0 snow 0;");
        error(1, "band @A height 0 snow 0;");
        error(1, "band @_a height 0 snow 0;");
        error(1, "band a@\theight 0 snow 0;");
        error(1, "band a@\rheight 0 snow 0;");
        error(1, "band a@\0height 0 snow 0;");
        error(1, "band a@\u00e9 height 0 snow 0;");
        error(1, "band a@\u00ff height 0 snow 0;");
        error(1, "band a@A height 0 snow 0;");
        error(1, "band a height @-1 snow 0;");
        error(1, "band @1a height 0 snow 0;");
        error(1, CAMP + "climb t when 1 < @= 2;");
        error(1, CAMP + "climb t when 1 = @< 2;");
        error(1, CAMP + "climb t when 1 =@> 2;");
        error(1, CAMP + "climb t when 1 <@> 2;");
        error(1, CAMP + "climb t when 1 @: 2;");
    }

    private static void ends() {
        error(1, "band@");
        error(1, "band a height 0 snow 0@");
        error(1, "band a height 0 snow 0  \n @");
        error(1, "band a height 0 snow 0; band b@");
        error(1, CAMP + "climb t when 1 = 1@");
        error(1, CAMP + "climb t when [1 = 1@");
        error(1, "@;");
        error(1, "band a height 0 snow 0;@;");
        error(1, "band a height 0 snow 0 @band b height 1 snow 1;");
    }

    private static void grammar() {
        error(1, "@a;");
        error(1, "@5;");
        error(1, "@height 5;");
        error(1, "band @band height 0 snow 0;");
        error(1, "band @7 height 0 snow 0;");
        error(1, "band a @snow 0 height 0;");
        error(1, "band a height @x snow 0;");
        error(1, "band a height 0 @deep 0;");
        error(1, "stake s @above a deep 5;");
        error(1, "stake s in a @bridge 5;");
        error(1, "crevasse s @in a bridge 5;");
        error(1, "crevasse s above a @deep 5;");
        error(1, "depot d in a @size 5;");
        error(1, "team d in a @food 5;");
        error(1, "team d in a size 5@;");
        error(1, "day @monday warm 5;");
        error(1, "day 1 @height 5;");
        error(1, "climb t@;");
        error(1, "climb t when@;");
        error(1, "climb @when 1 = 1;");
        error(1, "descend t @with 1;");
        error(1, "probe c @when 1 = 1;");
        error(1, "probe c by t@;");
        error(1, "fill t @when 1 = 1;");
        error(1, "fill t with@;");
        error(1, "fill t with 1 @= 1;");
        error(1, "fill t with 1 when@;");
        error(1, "drill s @by t when 1 = 1;");
        error(1, "drill s@;");
        error(1, "drill s when day@;");
        error(1, "drill s when 1 < 2 @< 3;");
        error(1, "drill s when (1 @< 2);");
        error(1, "drill s when [1@];");
        error(1, "drill s when [1 = 1@;");
        error(1, "drill s when 1 = 1@];");
        error(1, "drill s when 1 = 1 @not 1 = 1;");
        error(1, "drill s when 1 = 1 and@;");
        error(1, "drill s when 1 = 1 or @and 1 = 1;");
        error(1, "drill s when standing@;");
        error(1, "drill s when standing @5;");
        error(1, "drill s when standing s @= 1;");
        error(1, "drill s when 1 = @standing s;");
        error(1, "drill s when 1 + @here t = 1;");
        error(1, "drill s when @s = 1;");
        error(1, "drill s when snow @5 = 1;");
        error(1, "drill s when stock@;");
        error(1, "drill s when 1 + @= 1;");
        error(1, "drill s when 1 * @/ 1 = 1;");
        error(1, "drill s when 1 @1 = 1;");
        error(1, "drill s when min @1, 2 = 1;");
        error(1, "drill s when min(1@) = 1;");
        error(1, "drill s when min(1, 2@, 3) = 1;");
        error(1, "drill s when max(1 @; 2) = 1;");
        error(1, "drill s when (1@, 2) = 1;");
        error(1, "drill s when (1 @] = 1;");
        error(1, "drill s when @+ 1 = 1;");
        good(CAMP + "descend t when not not here t and [known c or standing s] or 1 + 2 - 3 * 4 / 5 <= - - 6;");
        good(CAMP + "probe c by t when day < warm; fill t with 5; fill t with - 5 when here t; drill s when 1 > 2;");
        good(CAMP + "climb t when min(snow lo, out s) >= max(bridge c, stock d) + sack t - place t;");
    }

    private static void depth() {
        good(CAMP + "climb t when ((((((((1)))))))) = 1;");
        error(1, CAMP + "climb t when ((((((((@(1))))))))) = 1;");
        good(CAMP + "climb t when - - - - - - - - 1 = 1;");
        error(1, CAMP + "climb t when - - - - - - - - @- 1 = 1;");
        good(CAMP + "climb t when not not not not not not not not here t;");
        error(1, CAMP + "climb t when not not not not not not not not @not here t;");
        good(CAMP + "climb t when [[[[[[[[here t]]]]]]]];");
        error(1, CAMP + "climb t when [[[[[[[[@[here t]]]]]]]]];");
        error(1, CAMP + "climb t when [[[[[[[[@not here t]]]]]]]];");
        error(1, CAMP + "climb t when [[[[not not - (@- 1) = 1]]]];");
        good(CAMP + "climb t when [not [not [not [- 1 = 1]]]];");
        error(1, CAMP + "climb t when [not [not [not [- @(1) = 1]]]];");
        good(CAMP + "climb t when [not [not [not [max(1, 2) = - 1]]]];");
        error(1, CAMP + "climb t when [not [not [not [max(@- 1, 2) = 1]]]];");
        error(1, CAMP + "climb t when [not [not [not [max(1, @- 2) = 1]]]];");
        error(1, CAMP + "climb t when [not [not [not [not min@(1, 2) = 1]]]];");
        good(CAMP + "climb t when min((((((((1))))))), (((((((2)))))))) = max((((((((1))))))), - - - - - - - 2);");
        error(1, CAMP + "climb t when min((((((((@(1))))))))), 2) = 1;");
        error(1, CAMP + "climb t when min(1, - - - - - - - @- 2) = 1;");
        error(1, CAMP + "climb t when [not [not [not [not max @1]]]];");
        good(CAMP + "fill t with ((((((((1)))))))) - ((((((((1)))))))) when not [- 1 < 2] and not [- 1 < 2];");
        good(CAMP + "climb t when [[[[[[[- 1 - - 1 = - 1 and - 1 = 1 or not here t]]]]]]];");
        good(CAMP + "climb t when [[[[[[[[1 - 1 = 1]]]]]]]];");
        error(1, CAMP + "climb t when [[[[[[[[1 - @- 1 = 1]]]]]]]];");
    }

    /** A list of n tokens: one band (7 tokens), lines of a day of 5, and the rest in a sum. */
    private static String list(int n) {
        StringBuilder text = new StringBuilder("band a height 0 snow 0;team t in a size 2 food 0;fill t with 0");
        int left = n - 7 - 9 - 4 - 1;
        if (left % 2 != 0) {
            throw new IllegalArgumentException("no such list");
        }
        for (int i = 0; i < left; i += 2) {
            text.append("+1");
        }
        return text.append(";").toString();
    }

    private static void manyTokens() {
        good(list(399));
        Check.due("tokens of the list", list(399).length() < 2000, true);
        String of400 = list(399).replace("+1;", "+-1;");
        good(of400);
        good(of400 + " \n ");
        error(1, of400 + " @day 1 warm 1;");
        error(1, of400 + "@;");
        error(1, of400 + "@\u00ff");
        error(1, list(399).replace("+1;", "+1*1@;"));
        error(1, list(399) + "day @1 warm 1;");
    }

    private static void names() {
        error(2, "band a height 0 snow 0; band @a height 1 snow 0;");
        error(2, CAMP + "stake @s in lo deep 1;");
        error(2, CAMP + "crevasse @c above lo bridge 1;");
        error(2, CAMP + "depot @d in lo food 1;");
        error(2, CAMP + "team @t in lo size 2 food 1;");
        good("band a height 0 snow 0; stake a in a deep 1; crevasse a above a bridge 1; depot a in a food 1; "
                + "team a in a size 2 food 1; probe a by a when snow a + out a + bridge a + stock a + sack a = 1;");
        error(3, CAMP + "stake r in @s deep 1;");
        error(3, CAMP + "crevasse r above @t bridge 1;");
        error(3, CAMP + "depot r in @c food 1;");
        error(3, CAMP + "team r in @d size 2 food 1;");
        error(3, CAMP + "climb @s when 1 = 1;");
        error(3, CAMP + "descend @c when 1 = 1;");
        error(3, CAMP + "probe @t by t when 1 = 1;");
        error(3, CAMP + "probe c by @c when 1 = 1;");
        error(3, CAMP + "fill @d with 1;");
        error(3, CAMP + "drill @lo when 1 = 1;");
        error(3, CAMP + "drill s when snow @s = 1;");
        error(3, CAMP + "drill s when out @lo = 1;");
        error(3, CAMP + "drill s when bridge @s = 1;");
        error(3, CAMP + "drill s when stock @t = 1;");
        error(3, CAMP + "drill s when sack @d = 1;");
        error(3, CAMP + "drill s when place @d = 1;");
        error(3, CAMP + "drill s when standing @c;");
        error(3, CAMP + "drill s when here @c;");
        error(3, CAMP + "drill s when known @t;");
        error(3, "stake s in @lo deep 5; band lo height 0 snow 0;");
        error(3, CAMP + "fill t with sack @u; team u in lo size 2 food 1;");
        good("band abcdefghi1 height 0 snow 0; band abcdefghi2 height 1 snow 0; band a height 2 snow 0; "
                + "band a0 height 3 snow 0; band aa height 4 snow 0;");
        error(3, "band abcdefghi1 height 0 snow 0; stake s in @abcdefghi2 deep 1;");
        error(3, "band a0 height 0 snow 0; stake s in @a deep 1;");
        String[] near = {"a", "ba", "b", "az", "a0", "a9", "as", "b9", "dl", "ar", "f0", "zzzzzzzzzz", "zzzzzzzzz9",
            "z999999999", "azzzzzzzzz"};
        for (String one : near) {
            for (String other : near) {
                error(one.equals(other) ? 2 : 5,
                        "band " + one + " height 0 snow 0; band " + (one.equals(other) ? "@" + other + " height 0 snow 0;"
                                : other + " height @0 snow 0;"));
            }
        }
    }

    private static void limits() {
        String bands = lines("band b# height # snow 0;", 5);
        good(bands);
        error(4, bands + "band @b5 height 5 snow 0;");
        error(2, bands + "band @b4 height 5 snow 0;");
        good("band a height 0 snow 0;" + lines("stake s# in a deep 1;", 6));
        error(4, "band a height 0 snow 0;" + lines("stake s# in a deep 1;", 6) + "stake @r in a deep 1;");
        error(2, "band a height 0 snow 0;" + lines("stake s# in a deep 1;", 6) + "stake @s5 in a deep 1;");
        good("band a height 0 snow 0;" + lines("crevasse c# above a bridge 1;", 4));
        error(4, "band a height 0 snow 0;" + lines("crevasse c# above a bridge 1;", 4) + "crevasse @d above a bridge 1;");
        good("band a height 0 snow 0;" + lines("depot d# in a food 1;", 4));
        error(4, "band a height 0 snow 0;" + lines("depot d# in a food 1;", 4) + "depot @e in a food 1;");
        good("band a height 0 snow 0;" + lines("team t# in a size 2 food 1;", 4));
        error(4, "band a height 0 snow 0;" + lines("team t# in a size 2 food 1;", 4) + "team @u in a size 2 food 1;");
        String orders = CAMP + lines("climb t when here t;descend t when here t;probe c by t when here t;"
                + "fill t with 1;drill s when here t;", 4);
        good(orders);
        error(4, orders + "@climb u when here u;");
        error(4, orders + "@descend t when here t;");
        error(4, orders + "@probe c by t when here t;");
        error(4, orders + "@fill t with 1;");
        error(4, orders + "@drill s when here t;");
        good(orders + "day 1 warm 3;");
        good(lines("day 1 warm #;", 30));
    }

    private static void ranges() {
        good("band a height 0 snow 0; band b height 20 snow 300;");
        error(5, "band a height @21 snow 0;");
        error(5, "band a height @999999 snow 0;");
        error(5, "band a height 0 snow @301;");
        error(5, "band a height 5 snow 0; band b height @5 snow 0;");
        error(5, "band a height 5 snow 0; band b height @4 snow 0;");
        error(5, "band a height 20 snow 0; band b height @21 snow 0;");
        good("band a height 5 snow 0; band b height 6 snow 0;");
        String a = "band a height 5 snow 0; ";
        good(a + "stake s in a deep 1; stake r in a deep 200;");
        error(5, a + "stake s in a deep @0;");
        error(5, a + "stake s in a deep @201;");
        good(a + "crevasse c above a bridge 0; crevasse d above a bridge 99;");
        error(5, a + "crevasse s above a bridge @100;");
        good(a + "depot d in a food 0; depot e in a food 99;");
        error(5, a + "depot s in a food @100;");
        good(a + "team t in a size 2 food 0; team u in a size 6 food 40;");
        error(5, a + "team s in a size @1 food 5;");
        error(5, a + "team s in a size @7 food 5;");
        error(5, a + "team s in a size 2 food @41;");
        good("day 0 warm 0; day 7 warm 30;");
        error(5, "day @8 warm 3;");
        error(5, "day 0 warm @31;");
        good(CAMP + "fill t with 999999 when 0 = 0;");
    }

    private static void firstError() {
        error(1, "band a height 99 snow 0; band a height 0 snow@;");
        error(1, "stake s in nowhere deep 0; stake s in nowhere deep 0; @x");
        error(5, "band a height @21 snow 301; band a height 1 snow 0;");
        error(3, "stake s in @nowhere deep 0;");
        error(3, CAMP + "probe @x by y when snow z = 1;");
        error(3, CAMP + "fill t with snow @z when known y;");
        error(5, "day @9 warm 31; climb x when here x;");
        error(2, CAMP + "team @t in x size 9 food 99;");
    }

    /** errorAt is that of the latest teach, and an error leaves all as it was, but the tape. */
    private static void places() {
        GlacierCamp camp = Check.camp(CAMP + "day 0 warm 20; fill t with 1;");
        camp.pass(3);
        camp.setWarm(3, 17);
        long before = camp.digest();
        Check.due("teach with an error", Check.teach(camp, "day 0 warm 7; band x height 0 snow 0; day 8 warm 1;"), 5);
        Check.due("errorAt()", camp.errorAt(), 42);
        Check.due("digest()", camp.digest(), before);
        Check.due("teach with an error 1", Check.teach(camp, "day 0 warm 7; !"), 1);
        Check.due("errorAt()", camp.errorAt(), 14);
        Check.due("digest()", camp.digest(), before);
        camp.pass(1);
        Check.due("orders go on", camp.count(11), 4);
        Check.due("teach of nothing", camp.teach(), 0);
        Check.due("errorAt()", camp.errorAt(), -1);
        Check.due("the day stays", camp.count(0), 4);
        for (int what = 1; what <= 14; what++) {
            Check.due("anew: count(" + what + ")", camp.count(what), what == 13 ? 10 : 0);
        }
        Check.due("warmth of day 3 anew", camp.setWarm(3, 1), 10);
        Check.due("teach again", Check.teach(camp, CAMP), 0);
        Check.due("warmth of day 3 anew again", camp.setWarm(3, 1), 10);
        Check.due("readings anew", camp.team(0, 5), 0);
        Check.due("nothing done", camp.team(0, 7), 0);
        Check.due("ice anew", camp.count(8), 0);
        again(camp);
    }

    /** However often a list is taught, with an error or without, nothing is left of the ones before. */
    private static void again(GlacierCamp camp) {
        String order = "fill t with (1 + 1) * (2 + 0 - 0) + min(0, 1) + max(0, - 1) when not [1 = 2 or 3 < 2];";
        String list = CAMP.replace("size 2 food 5", "size 2 food 0") + order;
        for (int i = 0; i < 30; i++) {
            Check.due("teach with an error at the end", Check.teach(camp, list + "climb t when here u;"), 3);
            Check.due("teach", Check.teach(camp, list), 0);
            for (int what = 1; what <= 6; what++) {
                Check.due("again: count(" + what + ")", camp.count(what), what == 1 ? 2 : 1);
            }
            Check.due("orders carried out", camp.count(11), 0);
            camp.pass(1);
            Check.due("orders carried out", camp.count(11), 1);
            Check.due("4 are filled, 1 is eaten", camp.team(0, 1), 3);
        }
    }
}
