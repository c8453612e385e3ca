import java.util.Arrays;
import java.util.List;

/**
 * The boundary cases of the language: each sentence of the document's part "1. The language" that names one, and of
 * the terms ahead of it, has a test of its own here. Promises 4 and 5, and 2 and 3 for the tape.
 */
public final class LanguageEdgeTest {
    private static final String CAMP = "band lo height 2 snow 30; band hi height 9 snow 5; stake s in lo deep 50; "
            + "crevasse c above lo bridge 60; depot d in lo food 9; team t in lo size 2 food 5; ";
    private static final String BAND = "band a height 0 snow 0; ";
    private static final String[] KEYWORDS = ("band height snow stake in deep crevasse above bridge depot food team "
            + "size day warm climb descend probe by fill with drill when out stock sack place standing here known not "
            + "and or min max").split(" ");

    public static void main(String[] args) {
        tape();
        tokens();
        grammar();
        depth();
        error1();
        order();
        Check.tests(LanguageEdgeTest::error2, LanguageEdgeTest::error3);
        error4();
        error5();
        numbering();
        sums();
        Check.end();
    }

    private static void good(String text) {
        Check.good(text);
    }

    private static void error(int error, String marked) {
        Check.error(error, marked);
    }

    // ---- the tape

    private static void tape() {
        Check.tests(LanguageEdgeTest::longestTape, LanguageEdgeTest::emptyBehind, LanguageEdgeTest::positions);
    }

    private static String blanks(int many) {
        return " ".repeat(many);
    }

    private static void longestTape() {
        Check.sentence(4, "The tape is a row of at most 2000 bytes, at first empty, which feed and trim fill");
        Check.due("at first", new GlacierCamp().count(14), 0);
        good(blanks(2000));
        good(BAND + blanks(2000 - 2 * BAND.length() + 1) + "band b height 1 snow 0;");
        Check.error(1, BAND + blanks(1999 - BAND.length()) + ";", 1999);
        Check.error(1, "band" + blanks(1996), 2000);
    }

    private static void emptyBehind() {
        Check.sentence(4, "teach reads it as a list, and it is empty behind it");
        GlacierCamp camp = new GlacierCamp();
        for (String text : new String[] {BAND, "band", "band a height 21 snow 0;", BAND + "x"}) {
            Check.feed(camp, text);
            camp.teach();
            Check.due("bytes behind " + text, camp.count(14), 0);
        }
        Check.due("teach of a good list", Check.teach(camp, BAND), 0);
        Check.due("teach of what is left", camp.teach(), 0);
        Check.due("bands in it", camp.count(1), 0);
        Check.feed(camp, BAND);
        camp.trim(0);
        Check.due("what is fed behind counts from its beginning", Check.teach(camp, "x"), 1);
        Check.due("errorAt()", camp.errorAt(), 0);
    }

    private static void positions() {
        Check.sentence(5, "Positions of the tape are counted from 0, in bytes.");
        Check.error(1, "x", 0);
        Check.error(1, "\u00e9", 0);
        Check.error(1, " \n\n \u00ff", 4);
        Check.error(5, "band a height 21 snow 0;", 14);
        Check.error(1, "\u00e9band a height 21 snow 0;", 0);
    }

    // ---- tokens

    private static void tokens() {
        Check.tests(LanguageEdgeTest::blanksBetween, LanguageEdgeTest::blanksNeeded, LanguageEdgeTest::longestTokens,
                LanguageEdgeTest::words, LanguageEdgeTest::numbers, LanguageEdgeTest::symbols,
                LanguageEdgeTest::keywords, LanguageEdgeTest::otherWords);
    }

    private static void blanksBetween() {
        Check.sentence(4, "Blanks (32) and line ends (10) can stand between tokens, at the beginning and at the end");
        good("band a height 0 snow 0;");
        good(" band  a   height    0     snow      0       ;        ");
        good("\nband\n\na\n\n\nheight\n0\nsnow\n0\n;\n");
        good("\n \n band \n\n a \nheight\n 0 snow 0 \n;\n \n");
        for (int sign = 0; sign < 256; sign++) {
            if (sign != ' ' && sign != '\n' && (sign < '0' || sign > '9') && (sign < 'a' || sign > 'z')) {
                Check.error(1, (char) sign + "band a height 0 snow 0;", 0);
                Check.error(1, "band " + (char) sign + "a height 0 snow 0;", 5);
                Check.error(1, "band a height 0 snow 0;" + (char) sign, 23);
            }
        }
    }

    private static void blanksNeeded() {
        Check.sentence(4, "and have to stand between two tokens that would otherwise be read as one");
        error(1, "@banda height 0 snow 0;");
        error(1, "band aheight @0 snow 0;");
        error(1, "band a height 0 @snow0;");
        error(1, "band a height 1 @0 snow 0;");
        error(1, CAMP + "climb t when 1 < @= 2;");
        error(1, CAMP + "climb t when 1 > @= 2;");
        error(1, CAMP + "climb t when @not1 = 1;");
        error(1, CAMP + "climb t when @nothere t;");
        good("band a height 0snow 10;band b height 1snow 0;");
        good(CAMP + "climb t when 1=1and[2=2]or not-1=(1);");
        good(CAMP + "fill t with min(1,2)when 1<2;");
    }

    private static void longestTokens() {
        Check.sentence(4, "The longest possible token is always read.");
        good(CAMP + "climb t when 1<=2 and 2>=1;");
        error(1, CAMP + "climb t when 1<=@=2;");
        error(1, CAMP + "climb t when 1>=@=2;");
        error(1, CAMP + "climb t when 1=@<2;");
        error(1, CAMP + "climb t when 1<@>2;");
        error(1, CAMP + "climb t when 1<@<=2;");
        error(1, "band @abcdefghijk height 0 snow 0;");
        error(1, "band a height @0000000 snow 0;");
        error(1, "band a height 0 snow @0000001;");
        good("band bands height 0 snow 0; band in1 height 1 snow 0; band orand height 2 snow 0;");
        Check.due("12 is not 1 and 2", Check.camp("band a height 12snow 123;").band(0, 1), 123);
    }

    private static void words() {
        Check.sentence(4, "A word: a letter a to z, followed by letters a to z and digits, at most 10 bytes.");
        good(bandsOf("a", "z", "a0", "z9", "az09"));
        good(bandsOf("abcdefghij", "klmnopqrst", "uvwxyz0123", "z456789abc", "i9"));
        good(bandsOf("abcdefghij", "abcdefghi", "abcdefghik", "abcdefghi0"));
        good("band a height 0snow 0;");
        error(1, "band @abcdefghijk height 0 snow 0;");
        error(1, "band @a0123456789 height 0 snow 0;");
        error(1, "band @standingstanding height 0 snow 0;");
        error(1, "band @0 height 0 snow 0;");
        error(1, "band @0a height 0 snow 0;");
        for (int sign : new int[] {'A', 'Z', '@', '[', '`', '{', '/', ':', '_', '.', '-', 223, 228, 255, 127, 0}) {
            Check.error(1, "band a" + (char) sign + " height 0 snow 0;", 6);
            Check.error(1, "band " + (char) sign + "a height 0 snow 0;", 5);
        }
    }

    private static String bandsOf(String... names) {
        StringBuilder text = new StringBuilder();
        for (int i = 0; i < names.length; i++) {
            text.append("band ").append(names[i]).append(" height ").append(i).append(" snow 0;");
        }
        return text.toString();
    }

    private static void numbers() {
        Check.sentence(4, "A number: 1 to 6 digits.");
        GlacierCamp camp = Check.camp("band a height 1 snow 23; band b height 04 snow 056; "
                + "band c height 000007 snow 000089;band d height 10 snow 300; team t in a size 2 food 0; "
                + "depot e in a food 9;fill t with 1 when 999999 - 100000 = 899999 and 123456 - 7 = 123449;");
        int[] due = {1, 23, 4, 56, 7, 89, 10, 300};
        for (int i = 0; i < due.length; i++) {
            Check.due("number " + i, camp.band(i / 2, i % 2), due[i]);
        }
        camp.pass(1);
        Check.due("of six digits", camp.count(11), 1);
        error(1, "band a height @0000000 snow 0;");
        error(1, "band a height @1234567 snow 0;");
        error(1, "band a height @1234567890123456789012345 snow 0;");
        error(1, CAMP + "fill t with @1000000;");
        error(1, "band a height @-1 snow 0;");
        error(1, "band a height 1@.5 snow 0;");
    }

    private static void symbols() {
        Check.sentence(4, "Symbols: ( ) [ ] ; , + - * / < > = <= >=");
        good(CAMP + "climb t when[(1+2)-3*4/5<6 and 7>8 or 9=10]and 1<=2 and 2>=min(1,2);");
        for (int sign = 0; sign < 256; sign++) {
            String before = CAMP + "climb t when 1 ";
            if ("+-*/<>=".indexOf(sign) >= 0) {
                good(before + (char) sign + (sign < '<' ? "1 = 2;" : "2;"));
            } else if (sign != ' ' && sign != '\n') {
                Check.error(1, before + (char) sign + " 2 = 2;", before.length());
            }
        }
    }

    private static void keywords() {
        Check.sentence(4, "The keywords are: " + String.join(" ", KEYWORDS) + ".");
        for (String keyword : KEYWORDS) {
            error(1, "band @" + keyword + " height 0 snow 0;");
            error(1, BAND + "stake s in @" + keyword + " deep 5;");
        }
    }

    private static void otherWords() {
        Check.sentence(4, "All other words are names.");
        for (String keyword : KEYWORDS) {
            good("band " + keyword + "0 height 0 snow 0; stake " + keyword + "x in " + keyword + "0 deep 5;");
            String shorter = keyword.substring(0, keyword.length() - 1);
            good("band " + shorter + " height 0 snow 0; band x" + keyword + " height 1 snow 0;");
        }
        good("band lines height 0 snow 0; band list height 1 snow 0; band test height 2 snow 0; "
                + "band sum height 3 snow 0;band name height 4 snow 0;");
    }

    // ---- grammar

    private static void grammar() {
        Check.tests(LanguageEdgeTest::manyLines, LanguageEdgeTest::manyTests, LanguageEdgeTest::manyValues,
                LanguageEdgeTest::manyTimes, LanguageEdgeTest::perhaps, LanguageEdgeTest::lines,
                LanguageEdgeTest::singles, LanguageEdgeTest::values);
    }

    private static void manyLines() {
        Check.sentence(4, "list = { line \";\" }");
        good("");
        good(BAND);
        good(Check.lines("day # warm 3;", 8));
        error(1, "@;");
        error(1, BAND + "@;");
        error(1, "band a height 0 snow 0@");
        error(1, "band a height 0 snow 0 @band b height 1 snow 0;");
    }

    private static void manyTests() {
        Check.sentence(4, "test = both { \"or\" both } both = single { \"and\" single }");
        good(CAMP + "climb t when here t;");
        good(CAMP + "climb t when here t" + Check.lines(" or here t", 60) + ";");
        good(CAMP + "climb t when here t" + Check.lines(" and here t", 60) + ";");
        good(CAMP + "climb t when here t and here t or here t or here t and here t and here t or here t;");
        error(1, CAMP + "climb t when @or here t;");
        error(1, CAMP + "climb t when here t or@;");
        error(1, CAMP + "climb t when here t and@;");
        error(1, CAMP + "climb t when here t or @or here t;");
        error(1, CAMP + "climb t when here t and @or here t;");
        error(1, CAMP + "climb t when here t @here t;");
    }

    private static void manyValues() {
        Check.sentence(4, "sum = product { ( \"+\" | \"-\" ) product } product = value { ( \"*\" | \"/\" ) value }");
        good(CAMP + "fill t with 1;");
        good(CAMP + "fill t with 1" + Check.lines("+1-1", 60) + ";");
        good(CAMP + "fill t with 1" + Check.lines("*1/1", 60) + ";");
        good(CAMP + "fill t with 1*2+3/4-5*6*7;");
        error(1, CAMP + "fill t with 1 +@;");
        error(1, CAMP + "fill t with 1 + @+ 1;");
        error(1, CAMP + "fill t with @* 1;");
        error(1, CAMP + "fill t with 1 *@;");
        error(1, CAMP + "fill t with 1 @1;");
    }

    private static void manyTimes() {
        Check.sentence(4, "{ x } x any number of times, also none");
        good("");
        good(CAMP + Check.lines("climb t when here t or here t and here t;", 20));
        good(CAMP + "fill t with 1" + "*1".repeat(100) + "+1".repeat(60) + ";");
    }

    private static void perhaps() {
        Check.sentence(4, "[ x ] outside of quotation marks means x or nothing");
        good(CAMP + "fill t with 1;");
        good(CAMP + "fill t with 1 when 1 = 1;");
        error(1, CAMP + "fill t with 1 when@;");
        error(1, CAMP + "fill t with 1 when 1 = 1 @when 1 = 1;");
        error(1, CAMP + "fill t@;");
        error(1, CAMP + "fill t @when 1 = 1;");
        error(1, CAMP + "climb t@;");
        error(1, CAMP + "descend t@;");
        error(1, CAMP + "probe c by t@;");
        error(1, CAMP + "drill s@;");
    }

    private static void lines() {
        Check.sentence(4, "line = \"band\" name \"height\" number \"snow\" number | \"stake\" name \"in\" name "
                + "\"deep\" number | \"crevasse\" name \"above\" name \"bridge\" number | \"depot\" name \"in\" name "
                + "\"food\" number | \"team\" name \"in\" name \"size\" number \"food\" number | \"day\" number "
                + "\"warm\" number | \"climb\" name \"when\" test | \"descend\" name \"when\" test | \"probe\" name "
                + "\"by\" name \"when\" test | \"fill\" name \"with\" sum [ \"when\" test ] | \"drill\" name \"when\" "
                + "test");
        String[] lines = {"band b height 20 snow 0;", "stake r in lo deep 5;", "crevasse e above lo bridge 5;",
            "depot e in lo food 5;", "team u in lo size 2 food 5;", "day 1 warm 5;", "climb t when 1 < 2;",
            "descend t when here t;", "probe c by t when known c;", "fill t with 1 when here t;",
            "drill s when here t;"};
        for (String line : lines) {
            good(CAMP + line);
            breakLine(line);
        }
    }

    /** With any of its tokens twice, left out, or put another in its place, or cut off there, a line has an error 1. */
    private static void breakLine(String line) {
        String[] tokens = line.replace(";", " ;").split(" ");
        StringBuilder before = new StringBuilder(CAMP);
        for (int i = 0; i < tokens.length; i++) {
            String behind = String.join(" ", Arrays.copyOfRange(tokens, i + 1, tokens.length));
            Check.error(1, before + behind, before.length());
            Check.error(1, before + "] " + behind, before.length());
            if (i > 0) {
                Check.error(1, before.toString(), before.length());
            }
            before.append(tokens[i]).append(' ');
            Check.error(1, before + tokens[i] + " " + behind, before.length());
        }
    }

    private static void singles() {
        Check.sentence(4, "single = \"not\" single | \"[\" test \"]\" | \"standing\" name | \"here\" name | \"known\" "
                + "name | sum ( \"<\" | \">\" | \"=\" | \"<=\" | \">=\" ) sum");
        String drill = CAMP + "drill s when ";
        good(drill + "not standing s;");
        good(drill + "[[not known c] or here t];");
        good(drill + "1 + 1 <= day * 2;");
        error(1, drill + "1 < 2 @< 3;");
        error(1, drill + "1@;");
        error(1, drill + "not@;");
        error(1, drill + "not 1@;");
        error(1, drill + "[@];");
        error(1, drill + "[1@];");
        error(1, drill + "[1 = 1@);");
        error(1, drill + "[1 = 1@;");
        error(1, drill + "here t@];");
        error(1, drill + "(@here t) = 1;");
        error(1, drill + "standing s @= 1;");
        error(1, drill + "standing@;");
        error(1, drill + "known @1;");
        error(1, drill + "1 = @not 1;");
        error(1, drill + "@s;");
    }

    private static void values() {
        Check.sentence(4, "value = number | \"day\" | \"warm\" | ( \"snow\" | \"out\" | \"bridge\" | \"stock\" | "
                + "\"sack\" | \"place\" ) name | \"-\" value | \"(\" sum \")\" | ( \"min\" | \"max\" ) \"(\" sum "
                + "\",\" sum \")\"");
        String fill = CAMP + "fill t with ";
        good(fill + "day + warm + snow lo + out s + bridge c + stock d + sack t + place t + - 1 + (2) + min(1, 2);");
        good(fill + "max(1 + 2, 3 * 4) - - (- - day);");
        error(1, fill + "snow@;");
        error(1, fill + "snow @1;");
        error(1, fill + "snow@(lo);");
        error(1, fill + "day @lo;");
        error(1, fill + "@lo;");
        error(1, fill + "@+ 1;");
        error(1, fill + "-@;");
        error(1, fill + "(@);");
        error(1, fill + "(1@;");
        error(1, fill + "(1@];");
        error(1, fill + "1@);");
        error(1, fill + "min@;");
        error(1, fill + "min @1, 2;");
        error(1, fill + "min(@, 2);");
        error(1, fill + "min(1@);");
        error(1, fill + "min(1,@);");
        error(1, fill + "min(1 @2);");
        error(1, fill + "max(1, 2@, 3);");
        error(1, fill + "max(1, 2@;");
        error(1, fill + "(1@, 2);");
        error(1, fill + "@standing s;");
        error(1, fill + "@not 1;");
    }

    // ---- depth

    private static void depth() {
        Check.tests(LanguageEdgeTest::atMost8, LanguageEdgeTest::whereDepthIs);
    }

    private static void atMost8() {
        Check.sentence(4, "It may be at most 8.");
        String fill = CAMP + "fill t with ";
        String climb = CAMP + "climb t when ";
        good(fill + "(".repeat(8) + "1" + ")".repeat(8) + ";");
        error(1, fill + "(".repeat(8) + "@(1" + ")".repeat(9) + ";");
        good(fill + "- ".repeat(8) + "1;");
        error(1, fill + "- ".repeat(8) + "@- 1;");
        good(climb + "[".repeat(8) + "here t" + "]".repeat(8) + ";");
        error(1, climb + "[".repeat(8) + "@[here t" + "]".repeat(9) + ";");
        good(climb + "not ".repeat(8) + "here t;");
        error(1, climb + "not ".repeat(8) + "@not here t;");
        good(fill + "min(".repeat(8) + "1" + ", 1)".repeat(8) + ";");
        error(1, fill + "max(".repeat(8) + "max@(1" + ", 1)".repeat(9) + ";");
        String[] inner = {"@(1) = 1", "@- 1 = 1", "@[here t]", "@not here t", "max@(1, 2) = 2", "1 = @(1)", "1 = @- 1"};
        for (String one : inner) {
            good(climb + "[not [not [not [" + one.replace("@", "") + "]]]];");
            error(1, climb + "[not [not [not [not " + one + "]]]];");
        }
    }

    private static void whereDepthIs() {
        Check.sentence(4, "It is 0 at the beginning, and 1 greater between a ( and its ), a [ and its ], behind a - "
                + "in front (of a value) for what it turns, and behind a not for what it turns.");
        String fill = CAMP + "fill t with ";
        String climb = CAMP + "climb t when ";
        String open = "(".repeat(8);
        String close = ")".repeat(8);
        good(fill + open + "1" + close + " + " + open + "1" + close + " when " + open + "1" + close + " = 1;");
        good(climb + "[".repeat(7) + "[here t] and [here t] or [here t]" + "]".repeat(7) + ";");
        good(climb + "[".repeat(7) + "not here t and not here t or not here t" + "]".repeat(7) + ";");
        good(fill + "(".repeat(7) + "- 1 - - 1 * - 1" + ")".repeat(7) + ";");
        good(fill + open + "1 - 1 - 1" + close + ";");
        error(1, fill + open + "1 - @- 1" + close + ";");
        good(fill + "(".repeat(7) + "min(1, 2) + max(1, 2)" + ")".repeat(7) + ";");
        error(1, fill + "(".repeat(7) + "min(1, @(2)) + 1" + ")".repeat(7) + ";");
        error(1, fill + "(".repeat(7) + "min(@- 1, 2) + 1" + ")".repeat(7) + ";");
        good(climb + "not ".repeat(7) + "[here t] and " + "not ".repeat(7) + "- 1 = - 1;");
        error(1, climb + "not ".repeat(7) + "[@not here t];");
        error(1, climb + "not ".repeat(7) + "- @- 1 = 1;");
        good(climb + "- ".repeat(8) + "1 = " + "- ".repeat(8) + "1 or " + "- ".repeat(8) + "1 = 1;");
        good(CAMP + Check.lines("fill t with " + open + "1" + close + ";", 9));
    }

    // ---- error 1

    private static void error1() {
        Check.tests(LanguageEdgeTest::firstToken, LanguageEdgeTest::wrongByte, LanguageEdgeTest::tooLong,
                LanguageEdgeTest::endOfTape, LanguageEdgeTest::tooDeep, LanguageEdgeTest::tooManyTokens,
                LanguageEdgeTest::firstByte);
    }

    private static void firstToken() {
        Check.sentence(4, "Error 1: the first token with which the tokens so far are not the beginning of a list.");
        error(1, "band a height @snow 0 height;");
        error(1, "@height band;");
        error(1, BAND + "@x; band;");
        error(1, "band a @height0 snow ! ;");
        error(1, "band a @; band a ;");
        error(1, CAMP + "climb t when @] [ ) (;");
        List<String> first = List.of("band", "stake", "crevasse", "depot", "team", "day", "climb", "descend", "probe",
                "fill", "drill");
        for (String keyword : KEYWORDS) {
            error(1, first.contains(keyword) ? BAND + keyword + "@" : BAND + "@" + keyword + " a height 1 snow 0;");
        }
    }

    private static void wrongByte() {
        Check.sentence(4, "This includes a byte with which no token begins");
        for (int sign = 0; sign < 256; sign++) {
            boolean token = sign >= 'a' && sign <= 'z' || sign >= '0' && sign <= '9' || " \n".indexOf(sign) >= 0;
            if (!token) {
                Check.error(1, (char) sign + BAND, 0);
                Check.error(1, BAND + (char) sign + "band b height 1 snow 0;", BAND.length());
                Check.error(1, "band a height 0 " + (char) sign + " snow 0;", 16);
            }
        }
        error(1, BAND + " \n @!");
        error(1, BAND + "@A");
        error(1, "@!" + BAND);
    }

    private static void tooLong() {
        Check.sentence(4, "a word or number that is too long");
        good("band abcdefghij height 000000 snow 0;");
        error(1, "band @abcdefghijk height 0 snow 0;");
        error(1, "band a height @0000000 snow 0;");
        error(1, "band a @heightheight 0 snow 0;");
        error(1, CAMP + "climb @ttttttttttt when 1 = 1;");
        error(1, CAMP + "fill t with @1234567;");
        error(1, CAMP + "fill t with 1 + @0000001;");
        error(1, "@bandbandband");
    }

    private static void endOfTape() {
        Check.sentence(4, "the end of the tape (at its length)");
        error(1, "band@");
        error(1, "band @");
        error(1, "band a height 0 snow 0@");
        error(1, "band a height 0 snow 0 \n\n @");
        error(1, BAND + "band@");
        error(1, CAMP + "climb t when here t@");
        error(1, CAMP + "fill t with (1@");
        error(1, CAMP + "fill t with 1 +@");
        good(BAND);
        good("\n");
    }

    private static void tooDeep() {
        Check.sentence(4, "the (, [, - or not behind which the depth would be 9");
        String[] ways = {"(", "- ", "min(", "max("};
        for (String way : ways) {
            int last = way.length() > 2 ? 3 : 0;
            String before = CAMP + "fill t with " + way.repeat(8);
            Check.error(1, before + way + "1;", before.length() + last);
        }
        error(1, CAMP + "climb t when " + "not ".repeat(8) + "@[1 = 1];");
        error(1, CAMP + "climb t when " + "not ".repeat(8) + "@not 1 = 1;");
        error(1, CAMP + "climb t when " + "[".repeat(8) + "@not 1 = 1;");
        error(1, CAMP + "climb t when " + "[".repeat(8) + "@[1 = 1;");
        error(1, CAMP + "climb t when " + "[".repeat(8) + "@(1) = 1;");
        error(1, CAMP + "climb t when " + "[".repeat(8) + "1 = @- 1;");
        error(1, CAMP + "climb t when " + "[".repeat(8) + "min@(1, 1) = 1;");
        error(1, CAMP + "climb t when " + "[".repeat(8) + "min @1;");
    }

    /** A list of 399 tokens: 11 + 9 of a band and a team, and the rest in a sum. */
    private static String of399() {
        return "band a height 0 snow 0;team t in a size 2 food 0;fill t with 0" + "+1".repeat(189) + ";";
    }

    private static void tooManyTokens() {
        Check.sentence(4, "the token that would be the 401st (the end of the tape not counted)");
        String of400 = of399().replace("+1;", "+-1;");
        good(of399());
        good(of400);
        good(of400 + "\n \n");
        error(1, of400 + "@day 1 warm 1;");
        error(1, of400 + " \n@day");
        error(1, of400 + "@;");
        error(1, of400 + "@!");
        error(1, of400 + "@abcdefghijk");
        error(1, of400.replace("-1;", "-1+@1;"));
        error(1, of399().replace("+1;", "+1*1@;"));
        error(1, of399().replace("+1;", "+1*1@"));
        error(1, of399() + "day @1 warm 1;");
        error(1, of399() + "day@");
        error(1, of399() + "@; ;");
        error(1, of400.replace("team t in a", "team t in b") + "@day 9 warm 1;");
        Check.error(3, of400.replace("team t in a", "team t in b"), 33);
    }

    private static void firstByte() {
        Check.sentence(4, "The position is that of its first byte.");
        error(1, "   @height");
        error(1, "band a height \n@snow 0;");
        error(1, BAND + " @abcdefghijklmnop");
        error(1, BAND + " @1234567890");
        error(1, CAMP + "climb t when 1 @); ");
        error(1, CAMP + "climb t when 1 = @<= 2;");
        error(1, BAND + "@!!!");
    }

    // ---- errors 2 to 5

    private static void order() {
        Check.tests(LanguageEdgeTest::onlyWithoutError1, LanguageEdgeTest::fromLeftToRight,
                LanguageEdgeTest::smallestNumber);
    }

    private static void onlyWithoutError1() {
        Check.sentence(4, "Only if there is no error 1, keywords, names and numbers are looked at");
        String[] wrong = {"band b height 0 snow 0; band b height 1 snow 0;", "stake s in b deep 5;",
            Check.lines("band b# height # snow 0;", 6), "day 8 warm 0;",
            BAND + "team t in a size 2 food 0;" + Check.lines("fill t with #;", 21)};
        int[] errors = {2, 3, 4, 5, 4};
        for (int i = 0; i < wrong.length; i++) {
            GlacierCamp camp = new GlacierCamp();
            Check.due("teach of " + wrong[i], Check.teach(camp, wrong[i]), errors[i]);
            error(1, wrong[i] + " day 0 warm 1@");
            error(1, wrong[i] + " @!");
            error(1, wrong[i].substring(0, wrong[i].length() - 1) + "@");
        }
    }

    private static void fromLeftToRight() {
        Check.sentence(4, "are looked at from left to right, and the first error is told, at its token");
        error(5, "day @8 warm 31; band a height 21 snow 0; band a height 0 snow 0;");
        error(5, BAND + "day 0 warm @31; band a height 1 snow 0;");
        error(5, "band a height @21 snow 301;");
        error(5, BAND + "team t in a size @7 food 41;");
        error(4, Check.lines("band b# height # snow 0;", 5) + "band @x height 30 snow 0; band b0 height 0 snow 0;");
        error(4, CAMP + Check.lines("fill t with #;", 20) + "@fill x with 1;");
        error(4, CAMP + Check.lines("fill t with #;", 20) + "@drill x when here x; stake s in x deep 0;");
        error(3, "stake s in @x deep 0; stake s in x deep 1;");
        error(3, CAMP + "probe @x by y when known z;");
        error(3, CAMP + "probe c by @y when known z;");
        error(3, CAMP + "fill t with snow @x + out y when here z;");
        error(3, CAMP + "fill t with snow lo + out @y when here z;");
        error(3, CAMP + "fill t with 1 when here @z and standing z;");
        error(2, CAMP + "stake @s in x deep 0;");
        error(2, CAMP + "band @lo height 0 snow 999; day 9 warm 99;");
    }

    private static void smallestNumber() {
        Check.sentence(4, "of errors at one token the one with the smallest number");
        String[] kinds = {"stake", "in", "deep", "crevasse", "above", "bridge", "depot", "in", "food", "team", "in",
            "size 2 food"};
        int[] most = {6, 4, 4, 4};
        error(2, Check.lines("band n# height # snow 0;", 5) + "band @n0 height 5 snow 0;");
        error(4, Check.lines("band n# height # snow 0;", 5) + "band @n5 height 5 snow 0;");
        for (int i = 0; i < most.length; i++) {
            String line = kinds[3 * i] + " n# " + kinds[3 * i + 1] + " a " + kinds[3 * i + 2] + " 1;";
            String full = BAND + Check.lines(line, most[i]);
            error(2, full + line.replace("n#", "@n0"));
            error(2, full + line.replace("n#", "@n" + (most[i] - 1)));
            error(4, full + line.replace("n#", "@n" + most[i]));
        }
    }

    private static void error2() {
        Check.sentence(4, "Error 2: the name behind band, stake, crevasse, depot or team (at the beginning of a line) "
                + "is that of one of the same kind told ahead.");
        error(2, CAMP + "band @lo height 10 snow 0;");
        error(2, CAMP + "band @hi height 10 snow 0;");
        error(2, CAMP + "stake @s in lo deep 1;");
        error(2, CAMP + "crevasse @c above lo bridge 1;");
        error(2, CAMP + "depot @d in lo food 1;");
        error(2, CAMP + "team @t in lo size 2 food 1;");
        String[] names = {"lo", "s", "c", "d", "t"};
        for (int i = 0; i < names.length; i++) {
            String name = names[i];
            good(CAMP + (i == 0 ? "" : "band " + name + " height 10 snow 0;")
                    + (i == 1 ? "" : "stake " + name + " in lo deep 1;")
                    + (i == 2 ? "" : "crevasse " + name + " above lo bridge 1;")
                    + (i == 3 ? "" : "depot " + name + " in lo food 1;")
                    + (i == 4 ? "" : "team " + name + " in lo size 2 food 1;"));
        }
        GlacierCamp camp = Check.camp(CAMP);
        Check.due("what was told by an earlier list counts no more", Check.teach(camp, CAMP), 0);
    }

    private static void error3() {
        Check.sentence(4, "Error 3: another name is none of what it has to be, told ahead: behind in, above and snow "
                + "(in a sum), of a band; behind drill, out and standing, of a stake; "
                + "behind probe, bridge (in a sum) and known, of a crevasse; behind stock, of a depot; "
                + "behind climb, descend, by, fill, sack, place and here, of a team.");
        String all = "band bb height 2 snow 30; stake ss in bb deep 50; crevasse cc above bb bridge 60; "
                + "depot dd in bb food 9; team tt in bb size 2 food 5; ";
        String[] names = {"bb", "ss", "cc", "dd", "tt"};
        // What a name has to be is told by its place in the list of names; the name itself stands at #.
        String[] places = {"0 stake n in # deep 1;", "0 depot n in # food 1;", "0 team n in # size 2 food 1;",
            "0 crevasse n above # bridge 1;", "0 fill tt with snow #;", "1 drill # when 1 = 1;",
            "1 fill tt with out #;",
            "1 climb tt when standing #;", "2 probe # by tt when 1 = 1;", "2 fill tt with bridge #;",
            "2 climb tt when known #;", "3 fill tt with stock #;", "4 climb # when 1 = 1;", "4 descend # when 1 = 1;",
            "4 probe cc by # when 1 = 1;", "4 fill # with 1;", "4 fill tt with sack #;", "4 fill tt with place #;",
            "4 climb tt when here #;"};
        String[] more = {"band new height 9 snow 0;", "stake new in bb deep 1;", "crevasse new above bb bridge 1;",
            "depot new in bb food 1;", "team new in bb size 2 food 1;"};
        for (String place : places) {
            int kind = place.charAt(0) - '0';
            String line = place.substring(2);
            for (int i = 0; i < names.length; i++) {
                if (i == kind) {
                    good(all + line.replace("#", names[i]));
                } else {
                    error(3, all + line.replace("#", "@" + names[i]));
                }
            }
            error(3, all + line.replace("#", "@new") + more[kind]);
            good(all + more[kind] + line.replace("#", "new"));
        }
        GlacierCamp camp = Check.camp(all);
        Check.due("what was told by an earlier list", Check.teach(camp, "climb tt when 1 = 1;"), 3);
    }

    private static void error4() {
        Check.tests(LanguageEdgeTest::mostOfEach, LanguageEdgeTest::mostOrders);
    }

    private static void mostOfEach() {
        Check.sentence(4, "Error 4: the name of the 6th band, of the 7th stake, of the 5th crevasse, of the 5th depot "
                + "or of the 5th team");
        good(Check.lines("band b# height # snow 0;", 5));
        error(4, Check.lines("band b# height # snow 0;", 5) + "band @b5 height 5 snow 0;");
        good(BAND + Check.lines("stake s# in a deep 1;", 6));
        error(4, BAND + Check.lines("stake s# in a deep 1;", 6) + "stake @s6 in a deep 1;");
        good(BAND + Check.lines("crevasse c# above a bridge 1;", 4));
        error(4, BAND + Check.lines("crevasse c# above a bridge 1;", 4) + "crevasse @c4 above a bridge 1;");
        good(BAND + Check.lines("depot d# in a food 1;", 4));
        error(4, BAND + Check.lines("depot d# in a food 1;", 4) + "depot @d4 in a food 1;");
        good(BAND + Check.lines("team t# in a size 2 food 1;", 4));
        error(4, BAND + Check.lines("team t# in a size 2 food 1;", 4) + "team @t4 in a size 2 food 1;");
        good(Check.lines("band b# height # snow 0;", 5) + Check.lines("stake s# in b# deep 1;", 5)
                + "stake s5 in b0 deep 1;" + Check.lines("crevasse c# above b# bridge 1;", 4)
                + Check.lines("depot d# in b# food 1;", 4) + Check.lines("team t# in b# size 2 food 1;", 4)
                + Check.lines("fill t0 with #;", 20) + Check.lines("day # warm 1;", 8) + "day 0 warm 2;");
    }

    private static void mostOrders() {
        Check.sentence(4, "the climb, descend, probe, fill or drill of the 21st order (of all these together)");
        String[] orders = {"climb t when here t;", "descend t when here t;", "probe c by t when here t;",
                "fill t with 1;",
            "drill s when here t;"};
        String mixed = CAMP + Check.lines(String.join("", orders), 4);
        good(mixed);
        for (String order : orders) {
            good(CAMP + order.repeat(20));
            error(4, CAMP + order.repeat(20) + "@" + order);
            error(4, mixed + "@" + order);
            error(4, mixed + "day 1 warm 3; @" + order + "day 9 warm 3;");
        }
    }

    private static void error5() {
        String of = "band a height 5 snow 0; ";
        Check.tests(() -> range("height 0 to 20", "band a height #", " snow 0;", 0, 20), LanguageEdgeTest::heights,
                () -> range("snow 0 to 300", "band a height 0 snow #", ";", 0, 300),
                () -> range("deep 1 to 200", of + "stake s in a deep #", ";", 1, 200),
                () -> range("bridge 0 to 99", of + "crevasse c above a bridge #", ";", 0, 99),
                () -> range("food 0 to 99 (of a depot)", of + "depot d in a food #", ";", 0, 99),
                () -> range("and 0 to 40 (of a team)", of + "team t in a size 2 food #", ";", 0, 40),
                () -> range("size 2 to 6", of + "team t in a size #", " food 0;", 2, 6),
                () -> range("day 0 to 7", "day #", " warm 0;", 0, 7),
                () -> range("warm 0 to 30", "day 0 warm #", ";", 0, 30), LanguageEdgeTest::numbersInSums);
    }

    private static void heights() {
        range("height 0 to 20, and greater than that of the band told ahead", "band a height 5 snow 0; band b height #",
                " snow 0;", 6, 20);
        error(5, "band a height 20 snow 0; band b height @20 snow 0;");
        error(5, "band a height 0 snow 0; band b height @0 snow 0;");
        error(5, "band a height 3 snow 0; band b height 7 snow 0; band c height @5 snow 0;");
        good("band a height 0 snow 0; band b height 1 snow 0; band c height 2 snow 0; band d height 20 snow 0;");
    }

    private static void numbersInSums() {
        Check.sentence(4, "Error 5: a number is out of its range");
        good(CAMP + "fill t with 999999 - 0 when 999999 > 0 and 301 > 31;");
    }

    private static void range(String words, String before, String behind, int least, int most) {
        Check.sentence(4, words);
        good(before.replace("#", String.valueOf(least)) + behind);
        good(before.replace("#", String.valueOf(most)) + behind);
        good(before.replace("#", "00" + least) + behind);
        for (int wrong : new int[] {least - 1, most + 1, 999999, 65536 + least, 100000 + most}) {
            if (wrong >= 0) {
                error(5, before.replace("#", "@" + wrong) + behind);
            }
        }
    }

    // ---- what a list tells

    private static void numbering() {
        Check.tests(LanguageEdgeTest::numbered, LanguageEdgeTest::days);
    }

    private static void numbered() {
        Check.sentence(4, "are numbered from 0 in the order in which they are told");
        GlacierCamp camp = Check.camp("band x height 1 snow 0; stake q in x deep 7; band w height 2 snow 0;stake p in "
                + "w deep 8; crevasse y above w bridge 5; crevasse b above x bridge 6; "
                + "depot n in w food 3;team r in w size 2 food 0; depot m in x food 4; team g in x size 3 food 0; "
                + "fill r with 2;stake o in x deep 9; fill r with 9 when sack r = 2;");
        Check.due("band 0", camp.band(0, 0), 1);
        Check.due("band 1", camp.band(1, 0), 2);
        for (int i = 0; i < 3; i++) {
            Check.due("stake " + i, camp.stake(i, 1), 7 + i);
        }
        Check.due("crevasse 0", camp.crevasse(0, 1), 5);
        Check.due("crevasse 1", camp.crevasse(1, 1), 6);
        Check.due("depot 0", camp.depot(0, 1), 3);
        Check.due("depot 1", camp.depot(1, 1), 4);
        Check.due("team 0", camp.team(0, 0), 2);
        Check.due("team 1", camp.team(1, 0), 3);
        Check.due("orders", camp.count(6), 2);
        camp.pass(1);
        Check.due("2, then 1 that is left, less 1 that is eaten", camp.team(0, 1), 2);
    }

    private static void days() {
        Check.sentence(4, "Of several lines of one day the latest counts; a day without one has the warmth 10.");
        GlacierCamp camp = Check.camp("day 7 warm 30; day 0 warm 3; day 7 warm 0; day 0 warm 4; day 0 warm 2; "
                + "day 3 warm 10;");
        int[] due = {2, 10, 10, 10, 10, 10, 10, 0};
        for (int day = 0; day < due.length; day++) {
            Check.due("warmth of day " + day, camp.count(13), due[day]);
            camp.pass(1);
        }
        Check.due("teach of nothing", camp.teach(), 0);
        for (int day = 0; day < due.length; day++) {
            Check.due("without any line, day " + day, camp.setWarm(day, 10), 10);
        }
    }

    // ---- sums

    /** Whether a test holds, where w is 2147483647 and v is -2147483648. */
    private static void holds(String test) {
        String v = "(65536 * 32768)";
        String w = "(65536 * 32767 + 65535)";
        GlacierCamp camp = Check.camp(CAMP.replace("food 5", "food 0") + "fill t with 1 when "
                + test.replace("V", v).replace("W", w) + ";");
        camp.pass(1);
        Check.due(test, camp.count(11), 1);
    }

    private static void sums() {
        Check.tests(LanguageEdgeTest::wrapping, LanguageEdgeTest::cutting, LanguageEdgeTest::dividingBy0,
                LanguageEdgeTest::dividingTheLeast);
    }

    private static void wrapping() {
        Check.sentence(4, "sums, differences and products of the language wrap around in 32 bits");
        holds("W > 0 and V < 0 and W + 1 = V and V - 1 = W and - V = V and W + W = - 2 and V + V = 0");
        holds("W * 2 = - 2 and W * W = 1 and V * 2 = 0 and V * 3 = V and 65536 * 65536 = 0 and 65537 * 65537 = 131073");
        holds("W - - 1 = V and 0 - V = V and V - W = 1 and - W - 2 = W");
        holds("999999 * 999999 = - 729 * 999999 - 380696");
    }

    private static void cutting() {
        Check.sentence(4, "/ is cut towards 0");
        holds("7 / 2 = 3 and (- 7) / 2 = - 3 and 7 / - 2 = - 3 and (- 7) / - 2 = 3 and - 1 / 2 = 0 and 1 / - 2 = 0");
        holds("W / 2 = 32767 * 32768 + 32767 and V / 2 = - 32768 * 32768 and V / W = - 1 and W / V = 0");
    }

    private static void dividingBy0() {
        Check.sentence(4, "gives 0 with 0 on the right side");
        holds("5 / 0 = 0 and - 5 / 0 = 0 and 0 / 0 = 0 and W / (1 - 1) = 0 and V / 0 = 0 and 7 + 9 / 0 * 3 = 7");
    }

    private static void dividingTheLeast() {
        Check.sentence(4, "-2147483648 / -1 gives -2147483648");
        holds("V / - 1 = V and V / - 1 < 0 and V / 1 = V and W / - 1 = V + 1");
    }
}
