import java.lang.reflect.InvocationTargetException;
import java.lang.reflect.Method;
import java.util.ArrayList;
import java.util.Arrays;
import java.util.List;
import java.util.Random;

/** Long runs of calls, made from fixed seeds, on a GlacierCamp and on the Model beside it: all answers agree. */
public final class ModelTest {
    private static final String[] HAND = {"go", "probe", "fill", "stock", "setWarm", "pass"};
    private static final String[] LOOK = {"melt", "until", "foresee", "safe", "advise", "mean", "digest", "count",
        "band", "stake", "crevasse", "depot", "team", "errorAt"};

    private final Random random;
    private final GlacierCamp camp = new GlacierCamp();
    private final Model model = new Model();
    private final StringBuilder log = new StringBuilder();

    private ModelTest(long seed) {
        random = new Random(seed);
    }

    public static void main(String[] args) {
        int runs = args.length > 0 ? Integer.parseInt(args[0]) : 300;
        for (int seed = 0; seed < runs; seed++) {
            Check.note(new ModelTest(seed).days(), "run of days " + seed);
            Check.note(new ModelTest(seed).lists(), "run of lists " + seed);
        }
        Check.end();
    }

    /** Good lists, and much that is done and asked between them. */
    private boolean days() {
        boolean same = true;
        int calls = 0;
        while (same && calls < 512) {
            String list = new Lists(random).list();
            if (random.nextInt(4) == 0) {
                list = spoilt(list);
            }
            calls += list.length() / 20 + 4;
            same = teach(list);
            int until = calls + random.nextInt(200);
            for (; same && calls < 512 && calls < until; calls++) {
                String[] names = random.nextInt(3) > 0 ? HAND : LOOK;
                same = call(names[random.nextInt(names.length)]);
            }
            same = same && compare("digest");
        }
        return same;
    }

    /** Lists of all kinds, most with an error. */
    private boolean lists() {
        boolean same = true;
        for (int i = 0; same && i < 40; i++) {
            String list = new Lists(random).list();
            int spoils = random.nextInt(4);
            for (int k = 0; k < spoils; k++) {
                list = spoilt(list);
            }
            same = teach(list) && compare("digest");
        }
        return same;
    }

    private String spoilt(String list) {
        String[] bits = {"band", "snow", "day", "x", "abcdefghijk", "1234567", "1", "99", ";", "(", "-", "not ", "[",
            "]", ")", "<", "=", "min(", "\n", " ", "\u00ff", "A", "or", "s0", "t0", "b0", "c0", "d0", "fill", "999",
            "not not not not not not not not not ", "((((((((", "- - - - - - - - -"};
        int at = random.nextInt(list.length() + 1);
        String bit = bits[random.nextInt(bits.length)];
        switch (random.nextInt(5)) {
            case 0:
                return list.substring(0, at);
            case 1:
                return list.substring(0, at) + bit + list.substring(at);
            case 2:
                return list.substring(0, at) + " " + bit + " " + list.substring(at);
            case 3:
                return list.substring(0, at) + list.substring(Math.min(list.length(), at + 1 + random.nextInt(12)));
            default: {
                String[] words = list.split(" ");
                words[random.nextInt(words.length)] = bit;
                return String.join(" ", words);
            }
        }
    }

    private boolean teach(String list) {
        String text = list.length() > 1980 ? list.substring(0, 1980) : list;
        log.append("\n-- ").append(text).append("\n");
        Check.feed(camp, text);
        for (int from = 0; from < text.length(); from += 20) {
            int[] words = new int[5];
            for (int i = 0; i < 20; i++) {
                char sign = from + i < text.length() ? text.charAt(from + i) : ' ';
                words[i / 4] = words[i / 4] << 8 | sign;
            }
            model.feed(words[0], words[1], words[2], words[3], words[4]);
        }
        model.trim(text.length());
        return compare("count", 14) && compare("teach") && compare("errorAt");
    }

    private boolean call(String name) {
        for (Method method : GlacierCamp.class.getMethods()) {
            if (method.getName().equals(name)) {
                Class<?>[] types = method.getParameterTypes();
                Object[] arguments = new Object[types.length];
                for (int i = 0; i < types.length; i++) {
                    arguments[i] = types[i] == boolean.class ? (Object) random.nextBoolean() : number(name, i);
                }
                return compare(name, arguments);
            }
        }
        throw new IllegalStateException(name);
    }

    private int number(String name, int place) {
        int[] strange = {-1, 61, 41, 201, 31, 13, 15, 6, 100, Integer.MIN_VALUE, Integer.MAX_VALUE};
        if (random.nextInt(25) == 0) {
            return strange[random.nextInt(strange.length)];
        }
        switch (name) {
            case "pass":
                return random.nextInt(10) == 0 ? 1 + random.nextInt(60) : 1 + random.nextInt(3);
            case "stock":
                return place == 0 ? random.nextInt(4) : 1 + random.nextInt(200);
            case "setWarm":
                return place == 0 ? random.nextInt(8) : random.nextInt(31);
            case "count":
                return random.nextInt(15);
            case "foresee":
                return place == 0 ? 1 + random.nextInt(60) : 7 + random.nextInt(6);
            case "melt":
            case "advise":
            case "fill":
                return place == 0 ? random.nextInt(4) : 1 + random.nextInt(40);
            default:
                return place == 0 ? random.nextInt(4) : random.nextInt(place == 1 && name.equals("probe") ? 4 : 8);
        }
    }

    private boolean compare(String name, Object... arguments) {
        log.append(name).append(Arrays.toString(arguments)).append(' ');
        String got = answer(camp, name, arguments);
        String want = answer(model, name, arguments);
        if (!got.equals(want)) {
            System.out.println(log + "\nanswered " + got + ", the model " + want);
        }
        return got.equals(want);
    }

    private static String answer(Object object, String name, Object[] arguments) {
        for (Method method : object.getClass().getMethods()) {
            if (method.getName().equals(name)) {
                try {
                    return String.valueOf(method.invoke(object, arguments));
                } catch (InvocationTargetException e) {
                    Throwable thrown = e.getCause();
                    boolean own = object instanceof GlacierCamp;
                    boolean index = thrown instanceof IndexOutOfBoundsException && !own;
                    return index ? IndexOutOfBoundsException.class.getName() : thrown.getClass().getName();
                } catch (IllegalAccessException e) {
                    throw new IllegalStateException(e);
                }
            }
        }
        throw new IllegalStateException(name);
    }

    /** Makes lists without an error. */
    private static final class Lists {
        private final Random random;
        private final StringBuilder text = new StringBuilder();
        private final int[] many = new int[5];

        Lists(Random random) {
            this.random = random;
        }

        private int upTo(int most) {
            return random.nextInt(most + 1);
        }

        private String one(String letter, int kind) {
            return letter + random.nextInt(many[kind]);
        }

        String list() {
            int[] most = {5, 6, 4, 4, 4};
            for (int i = 0; i < 5; i++) {
                many[i] = random.nextInt(3) > 0 ? most[i] - upTo(1) : upTo(most[i]);
            }
            many[0] = Math.max(1, many[0]);
            int height = upTo(6);
            for (int i = 0; i < many[0]; i++) {
                line("band b" + i + " height " + height + " snow " + (random.nextBoolean() ? upTo(300) : upTo(9)));
                height += 1 + upTo(2);
            }
            for (int i = 0; i < many[1]; i++) {
                line("stake s" + i + " in " + one("b", 0) + " deep " + (1 + upTo(random.nextBoolean() ? 199 : 29)));
            }
            for (int i = 0; i < many[2]; i++) {
                line("crevasse c" + i + " above " + one("b", 0) + " bridge " + upTo(99));
            }
            for (int i = 0; i < many[3]; i++) {
                line("depot d" + i + " in " + one("b", 0) + " food " + upTo(99));
            }
            for (int i = 0; i < many[4]; i++) {
                line("team t" + i + " in " + one("b", 0) + " size " + (2 + upTo(4)) + " food " + upTo(40));
            }
            for (int i = upTo(8); i > 0; i--) {
                line("day " + upTo(7) + " warm " + (random.nextBoolean() ? upTo(30) : 5 + upTo(10)));
            }
            int orders = upTo(20);
            for (int i = 0; i < orders; i++) {
                order();
            }
            return text.toString();
        }

        private void line(String line) {
            text.append(line).append(random.nextBoolean() ? ";" : " ;\n");
        }

        private void order() {
            List<String> verbs = new ArrayList<>();
            if (many[4] > 0) {
                verbs.addAll(Arrays.asList("climb ", "descend ", "fill ", "fill "));
            }
            if (many[4] > 0 && many[2] > 0) {
                verbs.add("probe ");
            }
            if (many[1] > 0) {
                verbs.add("drill ");
            }
            if (verbs.isEmpty()) {
                return;
            }
            String verb = verbs.get(random.nextInt(verbs.size()));
            String when = " when " + test(1);
            switch (verb) {
                case "fill ":
                    line(verb + one("t", 4) + " with " + sum(1) + (random.nextBoolean() ? "" : when));
                    break;
                case "probe ":
                    line(verb + one("c", 2) + " by " + one("t", 4) + when);
                    break;
                case "drill ":
                    line(verb + one("s", 1) + when);
                    break;
                default:
                    line(verb + one("t", 4) + when);
                    break;
            }
        }

        private String test(int depth) {
            String test = single(depth);
            for (int i = upTo(4) / 3; i > 0; i--) {
                test += (random.nextBoolean() ? " and " : " or ") + single(depth);
            }
            return test;
        }

        private String single(int depth) {
            switch (random.nextInt(9)) {
                case 0:
                    return many[1] > 0 ? "standing " + one("s", 1) : "1 = 1";
                case 1:
                    return many[4] > 0 ? "here " + one("t", 4) : "1 < 0";
                case 2:
                    return many[2] > 0 ? "known " + one("c", 2) : "0 <= 1";
                case 3:
                    return depth < 4 ? "not " + single(depth + 1) : "day > 3";
                case 4:
                    return depth < 4 ? "[" + test(depth + 1) + "]" : "day < 3";
                default: {
                    String[] signs = {"<", ">", "=", "<=", ">=", " < ", " >= "};
                    return sum(depth) + signs[random.nextInt(signs.length)] + sum(depth);
                }
            }
        }

        private String sum(int depth) {
            String sum = value(depth);
            for (int i = upTo(4) / 3; i > 0; i--) {
                sum += "+-*/".charAt(random.nextInt(4)) + value(depth);
            }
            return sum;
        }

        private String value(int depth) {
            switch (random.nextInt(14)) {
                case 0:
                    return "day";
                case 1:
                    return "warm";
                case 2:
                    return "snow " + one("b", 0);
                case 3:
                    return many[1] > 0 ? "out " + one("s", 1) : "3";
                case 4:
                    return many[2] > 0 ? "bridge " + one("c", 2) : "4";
                case 5:
                    return many[3] > 0 ? "stock " + one("d", 3) : "5";
                case 6:
                    return many[4] > 0 ? "sack " + one("t", 4) : "6";
                case 7:
                    return many[4] > 0 ? "place " + one("t", 4) : "7";
                case 8:
                    return depth < 4 ? "-" + value(depth + 1) : "8";
                case 9:
                    return depth < 4 ? "(" + sum(depth + 1) + ")" : "9";
                case 10:
                    return depth < 4
                            ? (random.nextBoolean() ? "min(" : "max (") + sum(depth + 1) + "," + sum(depth + 1) + ")"
                            : "0";
                case 11:
                    return String.valueOf(random.nextInt(1000000));
                default:
                    return String.valueOf(random.nextInt(12));
            }
        }
    }
}
