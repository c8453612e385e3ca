import java.util.ArrayList;
import java.util.Arrays;
import java.util.Comparator;
import java.util.HashMap;
import java.util.List;
import java.util.Map;
import java.util.function.Predicate;
import java.util.function.ToIntFunction;

/**
 * The document once more, written apart from the program and as naively as can be, for ModelTest. It has the
 * face of GlacierCamp, keeps all in maps and lists, and takes days as absolute.
 */
public final class Model {
    private static final List<String> KEYWORDS = Arrays.asList(("band height snow stake in deep crevasse above bridge "
            + "depot food team size day warm climb descend probe by fill with drill when out stock sack place standing "
            + "here known not and or min max").split(" "));

    private String tape = "";
    private int errorAt = -1;
    private World world = new World();

    static final class World {
        int day;
        int carried;
        int[] warm = {10, 10, 10, 10, 10, 10, 10, 10};
        /** By kind; each one is a map of its properties. */
        Map<String, List<Map<String, Integer>>> all = new HashMap<>();
        List<Order> orders = new ArrayList<>();

        List<Map<String, Integer>> of(String kind) {
            return all.computeIfAbsent(kind, k -> new ArrayList<>());
        }

        Map<String, Integer> one(String kind, int i) {
            return of(kind).get(i);
        }

        World copy() {
            World copy = new World();
            copy.day = day;
            copy.carried = carried;
            copy.warm = warm.clone();
            copy.orders = orders;
            for (Map.Entry<String, List<Map<String, Integer>>> e : all.entrySet()) {
                for (Map<String, Integer> one : e.getValue()) {
                    copy.of(e.getKey()).add(new HashMap<>(one));
                }
            }
            return copy;
        }
    }

    static final class Order {
        String verb;
        int who;
        int target;
        ToIntFunction<World> sum;
        Predicate<World> test = w -> true;
    }

    // ---- reading

    static final class SyntaxError extends RuntimeException {
        private static final long serialVersionUID = 1;

        final int at;

        SyntaxError(int at) {
            super(null, null, false, false);
            this.at = at;
        }
    }

    private static final class Token {
        String text;
        int at;
        boolean bad;
    }

    private static List<Token> split(String tape) {
        List<Token> tokens = new ArrayList<>();
        int i = 0;
        while (i < tape.length()) {
            if (tape.charAt(i) == ' ' || tape.charAt(i) == '\n') {
                i++;
                continue;
            }
            Token t = new Token();
            t.at = i;
            String rest = tape.substring(i);
            t.text = prefix(rest, "[a-z][a-z0-9]*");
            if (t.text == null) {
                t.text = prefix(rest, "[0-9]+");
            }
            if (t.text == null) {
                t.text = prefix(rest, "<=|>=|[()\\[\\];,+*/<>=-]");
            }
            if (t.text == null) {
                t.text = rest.substring(0, 1);
                t.bad = true;
            }
            if (t.text.matches("[a-z].*") && t.text.length() > 10 || t.text.matches("[0-9].*") && t.text.length() > 6
                    || tokens.size() >= 400) {
                t.bad = true;
            }
            tokens.add(t);
            i += t.text.length();
        }
        return tokens;
    }

    private static String prefix(String text, String regex) {
        java.util.regex.Matcher m = java.util.regex.Pattern.compile(regex).matcher(text);
        return m.lookingAt() ? m.group() : null;
    }

    private static final class Reader {
        final List<Token> tokens;
        final int end;
        int at;
        World world = new World();
        Map<String, List<String>> names = new HashMap<>();
        List<int[]> errors = new ArrayList<>();
        int orders;

        Reader(String tape) {
            tokens = split(tape);
            end = tape.length();
        }

        String peek() {
            return at < tokens.size() && !tokens.get(at).bad ? tokens.get(at).text : "";
        }

        int pos() {
            return at < tokens.size() ? tokens.get(at).at : end;
        }

        SyntaxError wrong() {
            return new SyntaxError(pos());
        }

        boolean is(String text) {
            return peek().equals(text);
        }

        void take(String... texts) {
            for (String text : texts) {
                if (!is(text)) {
                    throw wrong();
                }
                at++;
            }
        }

        void error(int number) {
            errors.add(new int[] {pos(), number});
        }

        List<String> namesOf(String kind) {
            return names.computeIfAbsent(kind, k -> new ArrayList<>());
        }

        String name() {
            String name = peek();
            if (!name.matches("[a-z].*") || KEYWORDS.contains(name)) {
                throw wrong();
            }
            return name;
        }

        void fresh(String kind, int most) {
            String name = name();
            if (namesOf(kind).contains(name)) {
                error(2);
            }
            if (namesOf(kind).size() >= most) {
                error(4);
            }
            namesOf(kind).add(name);
            at++;
        }

        int known(String kind) {
            int i = namesOf(kind).indexOf(name());
            if (i < 0) {
                error(3);
            }
            at++;
            return i;
        }

        int number() {
            if (!peek().matches("[0-9]+")) {
                throw wrong();
            }
            return Integer.parseInt(tokens.get(at++).text);
        }

        int number(int least, int most) {
            int n = number();
            if (n < least || n > most) {
                at--;
                error(5);
                at++;
            }
            return n;
        }

        void list() {
            while (at < tokens.size()) {
                line();
                take(";");
            }
        }

        void put(String kind, Object... facts) {
            Map<String, Integer> one = new HashMap<>();
            for (int i = 0; i < facts.length; i += 2) {
                one.put((String) facts[i], (Integer) facts[i + 1]);
            }
            world.of(kind).add(one);
        }

        void line() {
            String word = peek();
            switch (word) {
                case "band": {
                    at++;
                    fresh("band", 5);
                    take("height");
                    List<Map<String, Integer>> bands = world.of("band");
                    int height = number(bands.isEmpty() ? 0 : bands.get(bands.size() - 1).get("height") + 1, 20);
                    take("snow");
                    put("band", "height", height, "snow", number(0, 300), "lost", 0);
                    break;
                }
                case "stake": {
                    at++;
                    fresh("stake", 6);
                    take("in");
                    int band = known("band");
                    take("deep");
                    put("stake", "band", band, "deep", number(1, 200), "out", 0, "stands", 1, "latest", -1, "read", 0);
                    break;
                }
                case "crevasse": {
                    at++;
                    fresh("crevasse", 4);
                    take("above");
                    int band = known("band");
                    take("bridge");
                    put("crevasse", "band", band, "bridge", number(0, 99), "day", -99, "probed", -1, "over", 0,
                            "fell", 0);
                    break;
                }
                case "depot": {
                    at++;
                    fresh("depot", 4);
                    take("in");
                    int band = known("band");
                    take("food");
                    put("depot", "band", band, "food", number(0, 99));
                    break;
                }
                case "team": {
                    at++;
                    fresh("team", 4);
                    take("in");
                    int band = known("band");
                    take("size");
                    int size = number(2, 6);
                    take("food");
                    put("team", "size", size, "sack", number(0, 40), "band", band, "hungry", 0, "here", 1, "read", 0,
                            "falls", 0, "done", 0);
                    break;
                }
                case "day": {
                    at++;
                    int day = number(0, 7);
                    take("warm");
                    int warm = number(0, 30);
                    if (day < 8) {
                        world.warm[day] = warm;
                    }
                    break;
                }
                case "climb":
                case "descend":
                case "probe":
                case "fill":
                case "drill":
                    order(word);
                    break;
                default:
                    throw wrong();
            }
        }

        void order(String word) {
            if (++orders > 20) {
                error(4);
            }
            at++;
            Order order = new Order();
            order.verb = word;
            if (word.equals("climb") || word.equals("descend") || word.equals("fill")) {
                order.who = known("team");
            }
            if (word.equals("probe")) {
                order.target = known("crevasse");
                take("by");
                order.who = known("team");
            }
            if (word.equals("drill")) {
                order.target = known("stake");
            }
            if (word.equals("fill")) {
                take("with");
                order.sum = sum(0);
            }
            if (!word.equals("fill") || is("when")) {
                take("when");
                order.test = test(0);
            }
            world.orders.add(order);
        }

        int deeper(int depth) {
            if (depth == 8) {
                throw wrong();
            }
            at++;
            return depth + 1;
        }

        Predicate<World> test(int depth) {
            Predicate<World> left = both(depth);
            while (is("or")) {
                at++;
                left = left.or(both(depth));
            }
            return left;
        }

        Predicate<World> both(int depth) {
            Predicate<World> left = single(depth);
            while (is("and")) {
                at++;
                left = left.and(single(depth));
            }
            return left;
        }

        Predicate<World> single(int depth) {
            switch (peek()) {
                case "not":
                    return single(deeper(depth)).negate();
                case "[": {
                    Predicate<World> inner = test(deeper(depth));
                    take("]");
                    return inner;
                }
                case "standing": {
                    at++;
                    int i = known("stake");
                    return w -> w.one("stake", i).get("stands") == 1;
                }
                case "here": {
                    at++;
                    int i = known("team");
                    return w -> w.one("team", i).get("here") == 1;
                }
                case "known": {
                    at++;
                    int i = known("crevasse");
                    return w -> isKnown(w, i);
                }
                default:
                    break;
            }
            ToIntFunction<World> left = sum(depth);
            String how = peek();
            if (!how.matches("<|>|=|<=|>=")) {
                throw wrong();
            }
            at++;
            ToIntFunction<World> right = sum(depth);
            return w -> {
                int sign = Integer.compare(left.applyAsInt(w), right.applyAsInt(w));
                return sign == 0 && how.contains("=") || sign < 0 && how.contains("<") || sign > 0 && how.contains(">");
            };
        }

        ToIntFunction<World> sum(int depth) {
            ToIntFunction<World> left = product(depth);
            while (is("+") || is("-")) {
                int factor = is("+") ? 1 : -1;
                at++;
                ToIntFunction<World> a = left;
                ToIntFunction<World> b = product(depth);
                left = w -> a.applyAsInt(w) + factor * b.applyAsInt(w);
            }
            return left;
        }

        ToIntFunction<World> product(int depth) {
            ToIntFunction<World> left = value(depth);
            while (is("*") || is("/")) {
                boolean times = is("*");
                at++;
                ToIntFunction<World> a = left;
                ToIntFunction<World> b = value(depth);
                left = w -> {
                    long x = a.applyAsInt(w);
                    long y = b.applyAsInt(w);
                    return times ? (int) (x * y) : y == 0 ? 0 : (int) (x / y);
                };
            }
            return left;
        }

        ToIntFunction<World> value(int depth) {
            String word = peek();
            switch (word) {
                case "day":
                    at++;
                    return w -> w.day % 8;
                case "warm":
                    at++;
                    return w -> w.warm[w.day % 8];
                case "snow":
                    return fact("band", "snow");
                case "out":
                    return fact("stake", "out");
                case "bridge":
                    return fact("crevasse", "bridge");
                case "stock":
                    return fact("depot", "food");
                case "sack":
                    return fact("team", "sack");
                case "place":
                    return fact("team", "band");
                case "-": {
                    ToIntFunction<World> inner = value(deeper(depth));
                    return w -> -inner.applyAsInt(w);
                }
                case "(": {
                    ToIntFunction<World> inner = sum(deeper(depth));
                    take(")");
                    return inner;
                }
                case "min":
                case "max": {
                    at++;
                    if (!is("(")) {
                        throw wrong();
                    }
                    int inside = deeper(depth);
                    ToIntFunction<World> a = sum(inside);
                    take(",");
                    ToIntFunction<World> b = sum(inside);
                    take(")");
                    boolean least = word.equals("min");
                    return w -> {
                        int x = a.applyAsInt(w);
                        int y = b.applyAsInt(w);
                        return x < y == least ? x : y;
                    };
                }
                default: {
                    int n = number();
                    return w -> n;
                }
            }
        }

        ToIntFunction<World> fact(String kind, String what) {
            at++;
            int i = known(kind);
            return w -> w.one(kind, i).get(what);
        }
    }

    public int feed(int a, int b, int c, int d, int e) {
        if (tape.length() + 20 > 2000) {
            throw new IllegalStateException();
        }
        StringBuilder more = new StringBuilder(tape);
        for (int n : new int[] {a, b, c, d, e}) {
            more.append((char) (n >>> 24)).append((char) (n >>> 16 & 255)).append((char) (n >>> 8 & 255))
                    .append((char) (n & 255));
        }
        tape = more.toString();
        return tape.length();
    }

    public int trim(int n) {
        if (n < 0 || n > tape.length()) {
            throw new IllegalArgumentException();
        }
        tape = tape.substring(0, n);
        return n;
    }

    public int teach() {
        Reader reader = new Reader(tape);
        tape = "";
        errorAt = -1;
        try {
            reader.list();
        } catch (SyntaxError e) {
            errorAt = e.at;
            return 1;
        }
        if (!reader.errors.isEmpty()) {
            reader.errors.sort(Comparator.<int[]>comparingInt(e -> e[0]).thenComparingInt(e -> e[1]));
            errorAt = reader.errors.get(0)[0];
            return reader.errors.get(0)[1];
        }
        reader.world.day = world.day;
        world = reader.world;
        return 0;
    }

    public int errorAt() {
        return errorAt;
    }

    // ---- what there is

    private static int total(World w, String kind, String what) {
        return w.of(kind).stream().mapToInt(x -> x.get(what)).sum();
    }

    private int counted(World w, int what) {
        switch (what) {
            case 0: return w.day;
            case 1: return w.of("band").size();
            case 2: return w.of("stake").size();
            case 3: return w.of("crevasse").size();
            case 4: return w.of("depot").size();
            case 5: return w.of("team").size();
            case 6: return w.orders.size();
            case 7: return total(w, "depot", "food");
            case 8: return total(w, "band", "lost");
            case 9: return total(w, "stake", "read");
            case 10: return total(w, "crevasse", "fell");
            case 11: return w.carried;
            case 12: return (int) w.of("team").stream().filter(x -> x.get("here") == 0).count();
            case 13: return w.warm[w.day % 8];
            case 14: return tape.length();
            default: throw new IndexOutOfBoundsException();
        }
    }

    public int count(int what) {
        return counted(world, what);
    }

    private Map<String, Integer> need(String kind, int i) {
        return world.of(kind).get(i);
    }

    private static int pick(Map<String, Integer> one, int what, String... facts) {
        if (what < 0 || what >= facts.length) {
            throw new IndexOutOfBoundsException();
        }
        return one.get(facts[what]);
    }

    private static int having(World w, String kind, int band, String what) {
        return (int) w.of(kind).stream().filter(x -> x.get("band") == band && (what == null || x.get(what) == 1)).count();
    }

    public int band(int band, int what) {
        Map<String, Integer> one = new HashMap<>(need("band", band));
        one.put("teams", having(world, "team", band, "here"));
        one.put("stakes", having(world, "stake", band, "stands"));
        one.put("crevasses", having(world, "crevasse", band, null));
        return pick(one, what, "height", "snow", "lost", "teams", "stakes", "crevasses");
    }

    public int stake(int stake, int what) {
        return pick(need("stake", stake), what, "band", "deep", "out", "stands", "latest", "read");
    }

    private static boolean isKnown(World w, int crevasse) {
        int probed = w.one("crevasse", crevasse).get("day");
        return w.day == probed || w.day == probed + 1 || w.day == probed + 2;
    }

    public int crevasse(int crevasse, int what) {
        Map<String, Integer> one = new HashMap<>(need("crevasse", crevasse));
        one.put("known", isKnown(world, crevasse) ? 1 : 0);
        return pick(one, what, "band", "bridge", "known", "probed", "over", "fell");
    }

    public int depot(int depot, int what) {
        return pick(need("depot", depot), what, "band", "food");
    }

    public int team(int team, int what) {
        return pick(need("team", team), what, "size", "sack", "band", "hungry", "here", "read", "falls", "done");
    }

    // ---- by hand

    private static List<Integer> way(World w, int team, boolean up) {
        int band = w.one("team", team).get("band");
        List<Integer> way = new ArrayList<>();
        for (int i = 0; i < w.of("crevasse").size(); i++) {
            if (w.one("crevasse", i).get("band") == (up ? band : band - 1)) {
                way.add(up ? way.size() : 0, i);
            }
        }
        return way;
    }

    private static boolean weak(World w, int team, int crevasse) {
        return w.one("crevasse", crevasse).get("bridge") < 8 * w.one("team", team).get("size");
    }

    private static boolean free(World w, int team) {
        return w.one("team", team).get("here") == 1 && w.one("team", team).get("done") == 0;
    }

    private static boolean can(World w, int team, boolean up) {
        int next = w.one("team", team).get("band") + (up ? 1 : -1);
        return free(w, team) && next >= 0 && next < w.of("band").size()
                && way(w, team, up).stream().noneMatch(c -> isKnown(w, c) && weak(w, team, c));
    }

    private static boolean move(World w, int team, boolean up) {
        if (!can(w, team, up)) {
            return false;
        }
        Map<String, Integer> t = w.one("team", team);
        t.put("done", 1);
        List<Integer> way = way(w, team, up);
        for (int c : way) {
            if (weak(w, team, c)) {
                w.one("crevasse", c).put("bridge", 0);
                w.one("crevasse", c).merge("fell", 1, Integer::sum);
                t.put("sack", t.get("sack") - (int) Math.ceil(t.get("sack") / 2.0));
                t.merge("falls", 1, Integer::sum);
                return true;
            }
        }
        way.forEach(c -> w.one("crevasse", c).merge("over", 1, Integer::sum));
        t.merge("band", up ? 1 : -1, Integer::sum);
        return true;
    }

    private static boolean probes(World w, int team, int crevasse) {
        int band = w.one("crevasse", crevasse).get("band");
        int place = w.one("team", team).get("band");
        if (!free(w, team) || place != band && place != band + 1) {
            return false;
        }
        w.one("team", team).put("done", 1);
        w.one("crevasse", crevasse).put("day", w.day);
        w.one("crevasse", crevasse).put("probed", w.one("crevasse", crevasse).get("bridge"));
        return true;
    }

    private static int fills(World w, int team, int many) {
        Map<String, Integer> t = w.one("team", team);
        if (t.get("here") == 0) {
            return 0;
        }
        for (Map<String, Integer> d : w.of("depot")) {
            if (d.get("band").equals(t.get("band")) && d.get("food") > 0) {
                int n = many < 0 ? 0 : many;
                n = n > 40 - t.get("sack") ? 40 - t.get("sack") : n;
                n = n > d.get("food") ? d.get("food") : n;
                d.put("food", d.get("food") - n);
                t.put("sack", t.get("sack") + n);
                return n;
            }
        }
        return 0;
    }

    public int go(int team, boolean up) {
        need("team", team);
        if (!move(world, team, up)) {
            throw new IllegalStateException();
        }
        return team(team, 2);
    }

    public int probe(int team, int crevasse) {
        need("team", team);
        need("crevasse", crevasse);
        if (!probes(world, team, crevasse)) {
            throw new IllegalStateException();
        }
        return crevasse(crevasse, 3);
    }

    public int fill(int team, int many) {
        need("team", team);
        if (many < 1 || many > 40) {
            throw new IllegalArgumentException();
        }
        int n = fills(world, team, many);
        if (n == 0) {
            throw new IllegalStateException();
        }
        return n;
    }

    public int stock(int depot, int many) {
        need("depot", depot);
        if (many < 1 || many > 200) {
            throw new IllegalArgumentException();
        }
        need("depot", depot).merge("food", many, Integer::sum);
        need("depot", depot).merge("food", 999, Math::min);
        return depot(depot, 1);
    }

    public int setWarm(int day, int warm) {
        if (day < 0 || day > 7) {
            throw new IndexOutOfBoundsException();
        }
        if (warm < 0 || warm > 30) {
            throw new IllegalArgumentException();
        }
        int before = world.warm[day];
        world.warm[day] = warm;
        return before;
    }

    // ---- days

    private static boolean does(World w, Order order) {
        if (!order.test.test(w)) {
            return false;
        }
        switch (order.verb) {
            case "climb":
                return move(w, order.who, true);
            case "descend":
                return move(w, order.who, false);
            case "probe":
                return probes(w, order.who, order.target);
            case "fill":
                return fills(w, order.who, order.sum.applyAsInt(w)) > 0;
            default: {
                Map<String, Integer> s = w.one("stake", order.target);
                if (s.get("stands") == 1 || having(w, "team", s.get("band"), "here") == 0) {
                    return false;
                }
                s.put("stands", 1);
                s.put("out", 0);
                return true;
            }
        }
    }

    private static int dayOf(World w) {
        for (Order order : w.orders) {
            w.carried += does(w, order) ? 1 : 0;
        }
        for (int b = 0; b < w.of("band").size(); b++) {
            Map<String, Integer> band = w.one("band", b);
            int here = b;
            int warmth = w.warm[w.day % 8] - band.get("height");
            int melted = 0;
            int snowed = 0;
            while (warmth > 0 && melted < 3 * warmth) {
                melted++;
                band.merge(band.get("snow") > 0 ? "snow" : "lost", band.get("snow") > 0 ? -1 : 1, Integer::sum);
            }
            while (warmth < 0 && 2 * (snowed + 1) <= -warmth && band.get("snow") < 300) {
                snowed++;
                band.merge("snow", 1, Integer::sum);
            }
            int out = melted - snowed;
            int bridge = warmth > 0 ? -warmth : snowed;
            w.of("stake").stream().filter(s -> s.get("band") == here && s.get("stands") == 1).forEach(s -> {
                s.merge("out", out, Integer::sum);
                s.merge("out", 0, Math::max);
                s.put("stands", s.get("out") >= s.get("deep") ? 0 : 1);
            });
            w.of("crevasse").stream().filter(c -> c.get("band") == here).forEach(c -> {
                c.merge("bridge", bridge, Integer::sum);
                c.merge("bridge", 0, Math::max);
                c.merge("bridge", 99, Math::min);
            });
        }
        for (Map<String, Integer> t : w.of("team")) {
            if (t.get("here") == 0) {
                continue;
            }
            int need = (int) Math.ceil(t.get("size") / 2.0);
            while (need > 0 && t.get("sack") > 0) {
                need--;
                t.merge("sack", -1, Integer::sum);
            }
            for (Map<String, Integer> d : w.of("depot")) {
                while (d.get("band").equals(t.get("band")) && need > 0 && d.get("food") > 0) {
                    need--;
                    d.merge("food", -1, Integer::sum);
                }
            }
            t.put("hungry", need > 0 ? t.get("hungry") + 1 : 0);
            if (t.get("hungry") == 3) {
                t.put("here", 0);
            }
        }
        int readings = 0;
        for (Map<String, Integer> t : w.of("team")) {
            for (Map<String, Integer> s : w.of("stake")) {
                if (t.get("here") == 1 && s.get("band").equals(t.get("band")) && s.get("stands") == 1) {
                    s.put("latest", s.get("out"));
                    s.merge("read", 1, Integer::sum);
                    t.merge("read", 1, Integer::sum);
                    readings++;
                }
            }
        }
        w.of("team").forEach(t -> t.put("done", 0));
        w.day++;
        return readings;
    }

    private static int days(World w, int days) {
        int readings = 0;
        for (int i = 0; i < days; i++) {
            readings += dayOf(w);
        }
        return readings;
    }

    private static void needDays(int days, int most) {
        if (days < 1 || days > most) {
            throw new IllegalArgumentException();
        }
    }

    public int pass(int days) {
        needDays(days, 60);
        return days(world, days);
    }

    public int melt(int band, int days) {
        need("band", band);
        needDays(days, 60);
        int melted = 0;
        for (int day = world.day; day < world.day + days; day++) {
            int warmth = world.warm[day % 8] - need("band", band).get("height");
            melted += warmth > 0 ? 3 * warmth : 0;
        }
        return melted;
    }

    public int until(int stake) {
        need("stake", stake);
        World later = world.copy();
        for (int days = 0; days <= 99; days++) {
            if (later.one("stake", stake).get("stands") == 0) {
                return days;
            }
            dayOf(later);
        }
        return -1;
    }

    public int foresee(int days, int what) {
        needDays(days, 60);
        if (what < 7 || what > 12) {
            throw new IndexOutOfBoundsException();
        }
        World later = world.copy();
        days(later, days);
        return counted(later, what);
    }

    public boolean safe(int team, boolean up) {
        need("team", team);
        return can(world, team, up) && way(world, team, up).stream().noneMatch(c -> weak(world, team, c));
    }

    public int advise(int team, int days) {
        need("team", team);
        needDays(days, 40);
        if (need("team", team).get("here") == 0) {
            throw new IllegalStateException();
        }
        int[] readings = new int[3];
        for (int choice = 0; choice < 3; choice++) {
            World later = world.copy();
            readings[choice] = -1;
            if (choice == 0 || move(later, team, choice == 1)) {
                days(later, days);
                readings[choice] = later.one("team", team).get("read");
            }
        }
        int most = Arrays.stream(readings).max().getAsInt();
        return readings[0] == most ? 0 : readings[1] == most ? 1 : 2;
    }

    public double mean() {
        int bands = world.of("band").size();
        return bands == 0 ? 0 : (double) total(world, "band", "snow") / bands;
    }

    public long digest() {
        long d = 907;
        for (int what = 0; what < 15; what++) {
            d = d * 31 + count(what);
        }
        for (int i = 0; i < count(1); i++) {
            for (int what = 0; what < 6; what++) {
                d = d * 31 + band(i, what);
            }
        }
        for (int i = 0; i < count(2); i++) {
            for (int what = 0; what < 6; what++) {
                d = d * 31 + stake(i, what);
            }
        }
        for (int i = 0; i < count(3); i++) {
            for (int what = 0; what < 6; what++) {
                d = d * 31 + crevasse(i, what);
            }
        }
        for (int i = 0; i < count(4); i++) {
            for (int what = 0; what < 2; what++) {
                d = d * 31 + depot(i, what);
            }
        }
        for (int i = 0; i < count(5); i++) {
            for (int what = 0; what < 8; what++) {
                d = d * 31 + team(i, what);
            }
        }
        return d;
    }
}
