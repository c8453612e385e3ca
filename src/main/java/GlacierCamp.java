/** A camp on a glacier. What each call promises stands in the document; README.md tells how it is built. */
public final class GlacierCamp {
    private static final int MOST_BYTES = 2000;
    private static final int FED_BYTES = 20;
    private static final int MOST_TOKENS = 400;
    private static final int MOST_DEPTH = 8;
    private static final int MOST_BANDS = 5;
    private static final int MOST_STAKES = 6;
    private static final int MOST_CREVASSES = 4;
    private static final int MOST_DEPOTS = 4;
    private static final int MOST_TEAMS = 4;
    private static final int MOST_ORDERS = 20;

    private static final int WEEK = 8;
    private static final int USUAL_WARMTH = 10;
    private static final int MOST_WARMTH = 30;
    private static final int MOST_HEIGHT = 20;
    private static final int MOST_SNOW = 300;
    private static final int MOST_DEEP = 200;
    private static final int MOST_BRIDGE = 99;
    private static final int MOST_SACK = 40;
    private static final int LEAST_SIZE = 2;
    private static final int MOST_SIZE = 6;
    private static final int MOST_FIRST_STORE = 99;
    private static final int MOST_STORE = 999;
    private static final int MOST_STOCKED = 200;
    private static final int MOST_PASSED = 60;
    private static final int MOST_ADVISED = 40;
    private static final int MOST_WAITED = 99;
    private static final int KNOWN_DAYS = 3;
    private static final int HUNGRY_DAYS = 3;
    private static final int BRIDGE_PER_HEAD = 8;

    // Columns of the tables. Their numbers are those by which the face asks for them.
    private static final int BAND_HEIGHT = 0;
    private static final int BAND_SNOW = 1;
    private static final int BAND_LOST = 2;
    private static final int STAKE_BAND = 0;
    private static final int STAKE_DEEP = 1;
    private static final int STAKE_OUT = 2;
    private static final int STAKE_STANDS = 3;
    private static final int STAKE_LATEST = 4;
    private static final int STAKE_READINGS = 5;
    private static final int CREVASSE_BAND = 0;
    private static final int CREVASSE_BRIDGE = 1;
    private static final int CREVASSE_KNOWN_FOR = 2;
    private static final int CREVASSE_PROBED = 3;
    private static final int CREVASSE_CROSSED = 4;
    private static final int CREVASSE_FALLS = 5;
    private static final int DEPOT_BAND = 0;
    private static final int DEPOT_FOOD = 1;
    private static final int TEAM_SIZE = 0;
    private static final int TEAM_SACK = 1;
    private static final int TEAM_BAND = 2;
    private static final int TEAM_HUNGRY = 3;
    private static final int TEAM_HERE = 4;
    private static final int TEAM_READINGS = 5;
    private static final int TEAM_FALLS = 6;
    private static final int TEAM_DONE = 7;

    private static final int COUNTS = 15;
    private static final int BAND_FACTS = 6;
    private static final int STAKE_FACTS = 6;
    private static final int CREVASSE_FACTS = 6;
    private static final int DEPOT_FACTS = 2;
    private static final int TEAM_FACTS = 8;

    private final Tape tape = new Tape();
    private final Tokens tokens = new Tokens();
    private Glacier now = new Glacier();
    private Glacier later = new Glacier();
    private Orders told = new Orders();
    private Orders draft = new Orders();
    private int errorPosition = -1;

    public GlacierCamp() {
    }

    // ---- the language

    public int feed(int a, int b, int c, int d, int e) throws IllegalStateException {
        if (tape.size() > MOST_BYTES - FED_BYTES) {
            throw new IllegalStateException("the tape would be too long");
        }
        tape.append(a);
        tape.append(b);
        tape.append(c);
        tape.append(d);
        tape.append(e);
        return tape.size();
    }

    public int trim(int n) throws IllegalArgumentException {
        if (n < 0 || n > tape.size()) {
            throw new IllegalArgumentException("the tape has not so many bytes");
        }
        tape.cut(n);
        return n;
    }

    public int teach() {
        later.beginAnew(now.day());
        draft.clear();
        tokens.readFrom(tape);
        Teacher teacher = new Teacher(tokens, later, draft);
        teacher.readList();
        tape.cut(0);
        errorPosition = teacher.errorPosition();
        if (teacher.error() == 0) {
            takeOverDraft();
        }
        return teacher.error();
    }

    private void takeOverDraft() {
        Glacier oldGlacier = now;
        now = later;
        later = oldGlacier;
        Orders oldOrders = told;
        told = draft;
        draft = oldOrders;
    }

    public int errorAt() {
        return errorPosition;
    }

    public int count(int what) throws IndexOutOfBoundsException {
        needWhat(what, COUNTS);
        return counted(what);
    }

    private int counted(int what) {
        switch (what) {
            case 0:
                return now.day();
            case 1:
                return now.bands.rows();
            case 2:
                return now.stakes.rows();
            case 3:
                return now.crevasses.rows();
            case 4:
                return now.depots.rows();
            case 5:
                return now.teams.rows();
            case 6:
                return told.size();
            case 13:
                return now.warmthToday();
            case 14:
                return tape.size();
            default:
                return now.total(what);
        }
    }

    // ---- what there is

    public int band(int band, int what) throws IndexOutOfBoundsException {
        needRow(now.bands, band);
        needWhat(what, BAND_FACTS);
        return now.bandFact(band, what);
    }

    public int stake(int stake, int what) throws IndexOutOfBoundsException {
        needRow(now.stakes, stake);
        needWhat(what, STAKE_FACTS);
        return now.stakes.get(stake, what);
    }

    public int crevasse(int crevasse, int what) throws IndexOutOfBoundsException {
        needRow(now.crevasses, crevasse);
        needWhat(what, CREVASSE_FACTS);
        return now.crevasseFact(crevasse, what);
    }

    public int depot(int depot, int what) throws IndexOutOfBoundsException {
        needRow(now.depots, depot);
        needWhat(what, DEPOT_FACTS);
        return now.depots.get(depot, what);
    }

    public int team(int team, int what) throws IndexOutOfBoundsException {
        needRow(now.teams, team);
        needWhat(what, TEAM_FACTS);
        return now.teams.get(team, what);
    }

    private static void needRow(Table table, int row) {
        if (!table.has(row)) {
            throw new IndexOutOfBoundsException("there is no such one");
        }
    }

    private static void needWhat(int what, int facts) {
        if (what < 0 || what >= facts) {
            throw new IndexOutOfBoundsException("there is no such thing to tell");
        }
    }

    private static void needRange(int number, int least, int most) {
        if (number < least || number > most) {
            throw new IllegalArgumentException("the number is out of its range");
        }
    }

    // ---- by hand

    public int go(int team, boolean up) throws IndexOutOfBoundsException, IllegalStateException {
        needRow(now.teams, team);
        if (!now.tryGo(team, up)) {
            throw new IllegalStateException("the team cannot go");
        }
        return now.teams.get(team, TEAM_BAND);
    }

    public int probe(int team, int crevasse) throws IndexOutOfBoundsException, IllegalStateException {
        needRow(now.teams, team);
        needRow(now.crevasses, crevasse);
        if (!now.tryProbe(team, crevasse)) {
            throw new IllegalStateException("the team cannot probe");
        }
        return now.crevasses.get(crevasse, CREVASSE_BRIDGE);
    }

    public int fill(int team, int many)
            throws IndexOutOfBoundsException, IllegalArgumentException, IllegalStateException {
        needRow(now.teams, team);
        needRange(many, 1, MOST_SACK);
        int filled = now.takeFood(team, many);
        if (filled == 0) {
            throw new IllegalStateException("nothing comes into the sack");
        }
        return filled;
    }

    public int stock(int depot, int many) throws IndexOutOfBoundsException, IllegalArgumentException {
        needRow(now.depots, depot);
        needRange(many, 1, MOST_STOCKED);
        int food = Math.min(MOST_STORE, now.depots.get(depot, DEPOT_FOOD) + many);
        now.depots.set(depot, DEPOT_FOOD, food);
        return food;
    }

    public int setWarm(int day, int warm) throws IndexOutOfBoundsException, IllegalArgumentException {
        needWhat(day, WEEK);
        needRange(warm, 0, MOST_WARMTH);
        int before = now.warmthOf(day);
        now.changeWarmth(day, warm);
        return before;
    }

    // ---- days and what would be

    public int pass(int days) throws IllegalArgumentException {
        needRange(days, 1, MOST_PASSED);
        int before = now.teams.sum(TEAM_READINGS);
        for (int i = 0; i < days; i++) {
            now.passDay(told);
        }
        return now.teams.sum(TEAM_READINGS) - before;
    }

    public int melt(int band, int days) throws IndexOutOfBoundsException, IllegalArgumentException {
        needRow(now.bands, band);
        needRange(days, 1, MOST_PASSED);
        int height = now.bands.get(band, BAND_HEIGHT);
        int melted = 0;
        for (int i = 0; i < days; i++) {
            melted += 3 * Math.max(0, now.warmthOf((now.day() + i) % WEEK) - height);
        }
        return melted;
    }

    public int until(int stake) throws IndexOutOfBoundsException {
        needRow(now.stakes, stake);
        later.become(now);
        for (int days = 0; days < MOST_WAITED; days++) {
            if (later.stakes.get(stake, STAKE_STANDS) == 0) {
                return days;
            }
            later.passDay(told);
        }
        return later.stakes.get(stake, STAKE_STANDS) == 0 ? MOST_WAITED : -1;
    }

    public int foresee(int days, int what) throws IllegalArgumentException, IndexOutOfBoundsException {
        needRange(days, 1, MOST_PASSED);
        if (what < 7 || what > 12) {
            throw new IndexOutOfBoundsException("this is not foreseen");
        }
        later.become(now);
        for (int i = 0; i < days; i++) {
            later.passDay(told);
        }
        return later.total(what);
    }

    public boolean safe(int team, boolean up) throws IndexOutOfBoundsException {
        needRow(now.teams, team);
        return now.canGo(team, up) && now.fallingPlace(team, up) < 0;
    }

    public int advise(int team, int days)
            throws IndexOutOfBoundsException, IllegalArgumentException, IllegalStateException {
        needRow(now.teams, team);
        needRange(days, 1, MOST_ADVISED);
        if (!now.isHere(team)) {
            throw new IllegalStateException("the team is gone");
        }
        int best = 0;
        int most = -1;
        for (int choice = 0; choice <= 2; choice++) {
            later.become(now);
            if (choice == 0 || later.tryGo(team, choice == 1)) {
                for (int i = 0; i < days; i++) {
                    later.passDay(told);
                }
                int readings = later.teams.get(team, TEAM_READINGS);
                if (readings > most) {
                    most = readings;
                    best = choice;
                }
            }
        }
        return best;
    }

    public double mean() {
        int bands = now.bands.rows();
        return bands > 0 ? (double) now.bands.sum(BAND_SNOW) / bands : 0.0;
    }

    public long digest() {
        long d = 907;
        for (int what = 0; what < COUNTS; what++) {
            d = d * 31 + counted(what);
        }
        for (int i = 0; i < now.bands.rows(); i++) {
            for (int what = 0; what < BAND_FACTS; what++) {
                d = d * 31 + now.bandFact(i, what);
            }
        }
        d = digestOf(now.stakes, STAKE_FACTS, d);
        for (int i = 0; i < now.crevasses.rows(); i++) {
            for (int what = 0; what < CREVASSE_FACTS; what++) {
                d = d * 31 + now.crevasseFact(i, what);
            }
        }
        d = digestOf(now.depots, DEPOT_FACTS, d);
        return digestOf(now.teams, TEAM_FACTS, d);
    }

    private static long digestOf(Table table, int facts, long before) {
        long d = before;
        for (int i = 0; i < table.rows(); i++) {
            for (int what = 0; what < facts; what++) {
                d = d * 31 + table.get(i, what);
            }
        }
        return d;
    }

    /** Rows of numbers. Each place is tested here, so that no caller can reach outside. */
    private static final class Table {
        private static final int WIDTH = 8;

        private final int[] cells;
        private int rows;

        Table(int mostRows) {
            cells = new int[mostRows > 0 && mostRows <= MOST_ORDERS ? mostRows * WIDTH : 0];
        }

        int rows() {
            return rows;
        }

        boolean has(int row) {
            return row >= 0 && row < rows;
        }

        void clear() {
            rows = 0;
        }

        /** Returns the number of the new row, all 0; -1 if there is no room for it. */
        int addRow() {
            int from = rows * WIDTH;
            if (from < 0 || from > cells.length - WIDTH) {
                return -1;
            }
            for (int i = from; i < from + WIDTH && i < cells.length; i++) {
                cells[i] = 0;
            }
            rows++;
            return rows - 1;
        }

        int get(int row, int column) {
            int i = row * WIDTH + column;
            return row >= 0 && row < rows && i >= 0 && i < cells.length ? cells[i] : 0;
        }

        void set(int row, int column, int value) {
            int i = row * WIDTH + column;
            if (row >= 0 && row < rows && i >= 0 && i < cells.length) {
                cells[i] = value;
            }
        }

        void add(int row, int column, int more) {
            int i = row * WIDTH + column;
            if (row >= 0 && row < rows && i >= 0 && i < cells.length) {
                cells[i] += more;
            }
        }

        int sum(int column) {
            int sum = 0;
            for (int row = 0; row < rows; row++) {
                sum += get(row, column);
            }
            return sum;
        }

        /** How many rows have these numbers in these two columns. */
        int matches(int column, int value, int otherColumn, int otherValue) {
            int matches = 0;
            for (int row = 0; row < rows; row++) {
                if (get(row, column) == value && get(row, otherColumn) == otherValue) {
                    matches++;
                }
            }
            return matches;
        }

        void become(Table other) {
            for (int i = 0; i < cells.length && i < other.cells.length; i++) {
                cells[i] = other.cells[i];
            }
            rows = other.rows;
        }
    }

    /** The bytes that are fed. */
    private static final class Tape {
        private final byte[] bytes = new byte[MOST_BYTES];
        private int size;

        int size() {
            return size;
        }

        void append(int number) {
            for (int shift = 24; shift >= 0; shift -= 8) {
                if (size >= 0 && size < bytes.length) {
                    bytes[size] = (byte) (number >> shift);
                    size++;
                }
            }
        }

        void cut(int length) {
            size = length;
        }

        /** A byte of the tape; -1, with which no token begins or goes on, outside of it. */
        int byteAt(int i) {
            return i >= 0 && i < size && i < bytes.length ? bytes[i] : -1;
        }
    }

    /** What a token can be. In a formula it is also what is reckoned, out of the last so many values ahead of it. */
    private enum Sign {
        BAND("band", 0), HEIGHT("height", 0), SNOW("snow", 0), STAKE("stake", 0), IN("in", 0), DEEP("deep", 0),
        CREVASSE("crevasse", 0), ABOVE("above", 0), BRIDGE("bridge", 0), DEPOT("depot", 0), FOOD("food", 0),
        TEAM("team", 0), SIZE("size", 0), DAY("day", 0), WARM("warm", 0), CLIMB("climb", 0),
        DESCEND("descend", 0), PROBE("probe", 0), BY("by", 0), FILL("fill", 0), WITH("with", 0),
        DRILL("drill", 0), WHEN("when", 0), OUT("out", 0), STOCK("stock", 0), SACK("sack", 0),
        PLACE("place", 0), STANDING("standing", 0), HERE("here", 0), KNOWN("known", 0),
        NOT("not", 1), AND("and", 2), OR("or", 2), MIN("min", 2), MAX("max", 2),
        OPEN("(", 0), CLOSE(")", 0), OPEN_TEST("[", 0), CLOSE_TEST("]", 0), LINE_END(";", 0), COMMA(",", 0),
        PLUS("+", 2), MINUS("-", 2), TIMES("*", 2), OVER("/", 2),
        LESS("<", 2), GREATER(">", 2), EQUAL("=", 2), AT_MOST("<=", 2), AT_LEAST(">=", 2),
        NAME("", 0), NUMBER("", 0), END("", 0), WRONG("", 0);

        private final String text;
        private final int takes;

        Sign(String text, int takes) {
            this.text = text;
            this.takes = takes;
        }
    }

    /** The tokens of a tape, as many as a list can have, and the one that is looked at. */
    private static final class Tokens {
        private static final Sign[] SIGNS = Sign.values();
        private static final int LONGEST_WORD = 10;
        private static final int LONGEST_NUMBER = 6;

        private final Sign[] signs = new Sign[MOST_TOKENS + 1];
        private final int[] starts = new int[MOST_TOKENS + 1];
        private final long[] worths = new long[MOST_TOKENS + 1];
        private int size;
        private int at;
        private Sign sign = Sign.END;
        private int start;
        private long worth;
        private int brokenAt = -1;

        void readFrom(Tape tape) {
            size = 0;
            int from = pastBlanks(tape, 0);
            for (int i = 0; i < MOST_TOKENS && from < tape.size(); i++) {
                int to = tokenEnd(tape, from);
                Sign read = signOf(tape, from, to);
                put(read, from, worthOf(read, tape, from, to));
                from = pastBlanks(tape, to);
            }
            put(from < tape.size() ? Sign.WRONG : Sign.END, from, 0);
            at = -1;
            brokenAt = -1;
            advance();
        }

        private void put(Sign sign, int start, long worth) {
            if (size >= 0 && size < signs.length && size < starts.length && size < worths.length) {
                signs[size] = sign;
                starts[size] = start;
                worths[size] = worth;
                size++;
            }
        }

        Sign sign() {
            return sign;
        }

        int start() {
            return start;
        }

        /** The value of a number; for a name, a number that no other name has. */
        long worth() {
            return worth;
        }

        void advance() {
            at++;
            boolean there = at >= 0 && at < size && at < signs.length && at < starts.length && at < worths.length;
            Sign next = there ? signs[at] : null;
            sign = next != null ? next : Sign.WRONG;
            start = there ? starts[at] : start;
            worth = there ? worths[at] : 0;
        }

        void expect(Sign expected) {
            if (sign == expected) {
                advance();
            } else {
                breakOff();
            }
        }

        /** Here is error 1. From now on the sign is WRONG, with which no reader goes on. */
        void breakOff() {
            if (brokenAt < 0) {
                brokenAt = start;
            }
            sign = Sign.WRONG;
        }

        /** The position of error 1; -1 if there is none so far. */
        int brokenAt() {
            return brokenAt;
        }

        private static int pastBlanks(Tape tape, int from) {
            int to = from;
            while (to < tape.size() && (tape.byteAt(to) == ' ' || tape.byteAt(to) == '\n')) {
                to++;
            }
            return to;
        }

        private static int tokenEnd(Tape tape, int from) {
            int first = tape.byteAt(from);
            int to = from + 1;
            if (isLetter(first)) {
                while (to < tape.size() && (isLetter(tape.byteAt(to)) || isDigit(tape.byteAt(to)))) {
                    to++;
                }
            } else if (isDigit(first)) {
                while (to < tape.size() && isDigit(tape.byteAt(to))) {
                    to++;
                }
            } else if ((first == '<' || first == '>') && tape.byteAt(to) == '=') {
                to++;
            }
            return to;
        }

        private static Sign signOf(Tape tape, int from, int to) {
            if (isDigit(tape.byteAt(from))) {
                return to - from <= LONGEST_NUMBER ? Sign.NUMBER : Sign.WRONG;
            }
            boolean word = isLetter(tape.byteAt(from));
            if (word && to - from > LONGEST_WORD) {
                return Sign.WRONG;
            }
            for (Sign sign : SIGNS) {
                if (reads(tape, from, to, sign.text)) {
                    return sign;
                }
            }
            return word ? Sign.NAME : Sign.WRONG;
        }

        private static boolean reads(Tape tape, int from, int to, String text) {
            if (text.length() != to - from) {
                return false;
            }
            for (int i = 0; i < text.length(); i++) {
                if (text.charAt(i) != tape.byteAt(from + i)) {
                    return false;
                }
            }
            return true;
        }

        private static long worthOf(Sign sign, Tape tape, int from, int to) {
            if (sign == Sign.NUMBER) {
                return numberOf(tape, from, to);
            }
            return sign == Sign.NAME ? nameOf(tape, from, to) : 0;
        }

        private static long numberOf(Tape tape, int from, int to) {
            long number = 0;
            for (int i = from; i < to; i++) {
                number = number * 10 + tape.byteAt(i) - '0';
            }
            return number;
        }

        // To the base 37, which leaves 0 unused, ten signs differ for all names and stay within 64 bits.
        private static long nameOf(Tape tape, int from, int to) {
            long name = 0;
            for (int i = from; i < to; i++) {
                int sign = tape.byteAt(i);
                name = name * 37 + (isDigit(sign) ? sign - '0' + 27 : sign - 'a' + 1);
            }
            return name;
        }

        private static boolean isLetter(int sign) {
            return sign >= 'a' && sign <= 'z';
        }

        private static boolean isDigit(int sign) {
            return sign >= '0' && sign <= '9';
        }
    }

    /** The names of one kind, in the order in which they are told. */
    private static final class Names {
        private final long[] names = new long[MOST_STAKES];
        private int size;

        int size() {
            return size;
        }

        int find(long name) {
            for (int i = 0; i < size && i < names.length; i++) {
                if (names[i] == name) {
                    return i;
                }
            }
            return -1;
        }

        void add(long name) {
            if (size >= 0 && size < names.length) {
                names[size] = name;
                size++;
            }
        }
    }

    /**
     * Reads a list into a glacier and orders. Both are of use only if there is no error: the reading goes on
     * behind the errors 2 to 5, because an error 1 anywhere behind them is told in their place.
     */
    private static final class Teacher {
        private final Tokens tokens;
        private final Glacier glacier;
        private final Orders orders;
        private final Formulas formulas;
        private final Names bands = new Names();
        private final Names stakes = new Names();
        private final Names crevasses = new Names();
        private final Names depots = new Names();
        private final Names teams = new Names();
        private int error;
        private int errorPosition = -1;

        Teacher(Tokens tokens, Glacier glacier, Orders orders) {
            this.tokens = tokens;
            this.glacier = glacier;
            this.orders = orders;
            this.formulas = orders.formulas;
        }

        int error() {
            return tokens.brokenAt() >= 0 ? 1 : error;
        }

        int errorPosition() {
            return tokens.brokenAt() >= 0 ? tokens.brokenAt() : errorPosition;
        }

        void readList() {
            for (int i = 0; i < MOST_TOKENS && tokens.sign() != Sign.END && tokens.brokenAt() < 0; i++) {
                switch (tokens.sign()) {
                    case BAND:
                        readBand();
                        break;
                    case STAKE:
                        readStake();
                        break;
                    case CREVASSE:
                        readCrevasse();
                        break;
                    case DEPOT:
                        readDepot();
                        break;
                    case TEAM:
                        readTeam();
                        break;
                    case DAY:
                        readDay();
                        break;
                    case CLIMB:
                        readGo(Orders.CLIMB);
                        readWhen();
                        break;
                    case DESCEND:
                        readGo(Orders.DESCEND);
                        readWhen();
                        break;
                    case PROBE:
                        readProbe();
                        readWhen();
                        break;
                    case FILL:
                        readFill();
                        if (tokens.sign() == Sign.WHEN) {
                            readWhen();
                        }
                        break;
                    case DRILL:
                        readDrill();
                        readWhen();
                        break;
                    default:
                        tokens.breakOff();
                        break;
                }
                tokens.expect(Sign.LINE_END);
            }
        }

        private void readBand() {
            int last = glacier.bands.rows() - 1;
            int lowest = last < 0 ? 0 : glacier.bands.get(last, BAND_HEIGHT) + 1;
            newName(bands, MOST_BANDS);
            int height = number(Sign.HEIGHT, lowest, MOST_HEIGHT);
            glacier.addBand(height, number(Sign.SNOW, 0, MOST_SNOW));
        }

        private void readStake() {
            newName(stakes, MOST_STAKES);
            int band = oldName(Sign.IN, bands);
            glacier.addStake(band, number(Sign.DEEP, 1, MOST_DEEP));
        }

        private void readCrevasse() {
            newName(crevasses, MOST_CREVASSES);
            int band = oldName(Sign.ABOVE, bands);
            glacier.addCrevasse(band, number(Sign.BRIDGE, 0, MOST_BRIDGE));
        }

        private void readDepot() {
            newName(depots, MOST_DEPOTS);
            int band = oldName(Sign.IN, bands);
            glacier.addDepot(band, number(Sign.FOOD, 0, MOST_FIRST_STORE));
        }

        private void readTeam() {
            newName(teams, MOST_TEAMS);
            int band = oldName(Sign.IN, bands);
            int size = number(Sign.SIZE, LEAST_SIZE, MOST_SIZE);
            glacier.addTeam(band, size, number(Sign.FOOD, 0, MOST_SACK));
        }

        private void readDay() {
            int day = number(Sign.DAY, 0, WEEK - 1);
            glacier.changeWarmth(day, number(Sign.WARM, 0, MOST_WARMTH));
        }

        private void readGo(int kind) {
            newOrder(kind);
            orders.note(Orders.TEAM, oldName(tokens.sign(), teams));
        }

        private void readProbe() {
            newOrder(Orders.PROBE);
            orders.note(Orders.TARGET, oldName(Sign.PROBE, crevasses));
            orders.note(Orders.TEAM, oldName(Sign.BY, teams));
        }

        private void readFill() {
            newOrder(Orders.FILL);
            orders.note(Orders.TEAM, oldName(Sign.FILL, teams));
            tokens.expect(Sign.WITH);
            orders.note(Orders.SUM_FROM, formulas.size());
            readSum(0);
            orders.note(Orders.SUM_TO, formulas.size());
        }

        private void readDrill() {
            newOrder(Orders.DRILL);
            orders.note(Orders.TARGET, oldName(Sign.DRILL, stakes));
        }

        private void readWhen() {
            tokens.expect(Sign.WHEN);
            orders.note(Orders.TEST_FROM, formulas.size());
            readTest(0);
            orders.note(Orders.TEST_TO, formulas.size());
        }

        private void readTest(int depth) {
            readBoth(depth);
            for (int i = 0; i < MOST_TOKENS && tokens.sign() == Sign.OR; i++) {
                tokens.advance();
                readBoth(depth);
                formulas.put(Sign.OR, 0);
            }
        }

        private void readBoth(int depth) {
            readSingle(depth);
            for (int i = 0; i < MOST_TOKENS && tokens.sign() == Sign.AND; i++) {
                tokens.advance();
                readSingle(depth);
                formulas.put(Sign.AND, 0);
            }
        }

        private void readSingle(int depth) {
            Sign sign = tokens.sign();
            if (sign == Sign.NOT) {
                if (goesDeeper(depth)) {
                    readSingle(depth + 1);
                    formulas.put(sign, 0);
                }
            } else if (sign == Sign.OPEN_TEST) {
                if (goesDeeper(depth)) {
                    readTest(depth + 1);
                    tokens.expect(Sign.CLOSE_TEST);
                }
            } else if (sign == Sign.STANDING) {
                formulas.put(sign, oldName(sign, stakes));
            } else if (sign == Sign.HERE) {
                formulas.put(sign, oldName(sign, teams));
            } else if (sign == Sign.KNOWN) {
                formulas.put(sign, oldName(sign, crevasses));
            } else {
                readSum(depth);
                sign = tokens.sign();
                if (isComparison(sign)) {
                    tokens.advance();
                    readSum(depth);
                    formulas.put(sign, 0);
                } else {
                    tokens.breakOff();
                }
            }
        }

        private static boolean isComparison(Sign sign) {
            return sign == Sign.LESS || sign == Sign.GREATER || sign == Sign.EQUAL
                    || sign == Sign.AT_MOST || sign == Sign.AT_LEAST;
        }

        private void readSum(int depth) {
            readProduct(depth);
            Sign sign = tokens.sign();
            for (int i = 0; i < MOST_TOKENS && (sign == Sign.PLUS || sign == Sign.MINUS); i++) {
                tokens.advance();
                readProduct(depth);
                formulas.put(sign, 0);
                sign = tokens.sign();
            }
        }

        private void readProduct(int depth) {
            readValue(depth);
            Sign sign = tokens.sign();
            for (int i = 0; i < MOST_TOKENS && (sign == Sign.TIMES || sign == Sign.OVER); i++) {
                tokens.advance();
                readValue(depth);
                formulas.put(sign, 0);
                sign = tokens.sign();
            }
        }

        private void readValue(int depth) {
            Sign sign = tokens.sign();
            switch (sign) {
                case NUMBER:
                    formulas.put(sign, (int) tokens.worth());
                    tokens.advance();
                    break;
                case DAY:
                case WARM:
                    formulas.put(sign, 0);
                    tokens.advance();
                    break;
                case SNOW:
                    formulas.put(sign, oldName(sign, bands));
                    break;
                case OUT:
                    formulas.put(sign, oldName(sign, stakes));
                    break;
                case BRIDGE:
                    formulas.put(sign, oldName(sign, crevasses));
                    break;
                case STOCK:
                    formulas.put(sign, oldName(sign, depots));
                    break;
                case SACK:
                case PLACE:
                    formulas.put(sign, oldName(sign, teams));
                    break;
                default:
                    readNested(sign, depth);
                    break;
            }
        }

        private void readNested(Sign sign, int depth) {
            if (sign == Sign.MINUS) {
                if (goesDeeper(depth)) {
                    formulas.put(Sign.NUMBER, 0);
                    readValue(depth + 1);
                    formulas.put(sign, 0);
                }
            } else if (sign == Sign.OPEN) {
                if (goesDeeper(depth)) {
                    readSum(depth + 1);
                    tokens.expect(Sign.CLOSE);
                }
            } else if (sign == Sign.MIN || sign == Sign.MAX) {
                tokens.advance();
                if (tokens.sign() != Sign.OPEN) {
                    tokens.breakOff();
                } else if (goesDeeper(depth)) {
                    readSum(depth + 1);
                    tokens.expect(Sign.COMMA);
                    readSum(depth + 1);
                    tokens.expect(Sign.CLOSE);
                    formulas.put(sign, 0);
                }
            } else {
                tokens.breakOff();
            }
        }

        /** Takes a token behind which the depth is greater, if it may be. */
        private boolean goesDeeper(int depth) {
            if (depth >= MOST_DEPTH) {
                tokens.breakOff();
                return false;
            }
            tokens.advance();
            return true;
        }

        /** Takes the keyword of a new one of a kind, and its name. */
        private void newName(Names names, int most) {
            tokens.advance();
            if (tokens.sign() != Sign.NAME) {
                tokens.breakOff();
                return;
            }
            if (names.find(tokens.worth()) >= 0) {
                tellError(2);
            } else if (names.size() >= most) {
                tellError(4);
            } else {
                names.add(tokens.worth());
            }
            tokens.advance();
        }

        /** Takes a keyword, and the name of one that is told ahead; returns its number. */
        private int oldName(Sign keyword, Names names) {
            tokens.expect(keyword);
            if (tokens.sign() != Sign.NAME) {
                tokens.breakOff();
                return -1;
            }
            int found = names.find(tokens.worth());
            if (found < 0) {
                tellError(3);
            }
            tokens.advance();
            return found;
        }

        /** Takes a keyword, and a number that has this range. */
        private int number(Sign keyword, int least, int most) {
            tokens.expect(keyword);
            if (tokens.sign() != Sign.NUMBER) {
                tokens.breakOff();
                return least;
            }
            int number = (int) tokens.worth();
            if (number < least || number > most) {
                tellError(5);
            }
            tokens.advance();
            return number;
        }

        private void newOrder(int kind) {
            if (!orders.add(kind)) {
                tellError(4);
            }
        }

        private void tellError(int number) {
            if (error == 0) {
                error = number;
                errorPosition = tokens.start();
            }
        }
    }

    /** Sums and tests, each a stretch of signs: what a sign takes stands ahead of it. So no recursion reckons them. */
    private static final class Formulas {
        // A - in front makes two of one token: it is reckoned as 0 less the value.
        private static final int MOST_SIGNS = 2 * MOST_TOKENS;

        private final Sign[] signs = new Sign[MOST_SIGNS];
        private final int[] operands = new int[MOST_SIGNS];
        private final int[] stack = new int[MOST_SIGNS];
        private int size;
        private int top;

        int size() {
            return size;
        }

        void clear() {
            size = 0;
        }

        /** The operand is the value of a number, or the number of the one that is named. */
        void put(Sign sign, int operand) {
            if (size >= 0 && size < signs.length && size < operands.length) {
                signs[size] = sign;
                operands[size] = operand;
                size++;
            }
        }

        /** What a sum is worth; of a test, 1 if it holds, else 0. */
        int worth(int from, int to, Glacier glacier) {
            top = 0;
            for (int i = from; i >= 0 && i < to && i < signs.length && i < operands.length; i++) {
                Sign sign = signs[i];
                if (sign == null) {
                    return 0;
                }
                if (sign == Sign.NUMBER) {
                    push(operands[i]);
                } else if (sign.takes == 0) {
                    push(glacier.valueOf(sign, operands[i]));
                } else if (sign.takes == 1) {
                    push(1 - pop());
                } else {
                    int right = pop();
                    push(joined(sign, pop(), right));
                }
            }
            return pop();
        }

        private void push(int value) {
            if (top >= 0 && top < stack.length) {
                stack[top] = value;
                top++;
            }
        }

        private int pop() {
            if (top <= 0 || top > stack.length) {
                return 0;
            }
            top--;
            return stack[top];
        }

        private static int joined(Sign sign, int left, int right) {
            switch (sign) {
                case PLUS:
                    return left + right;
                case MINUS:
                    return left - right;
                case TIMES:
                    return left * right;
                case OVER:
                    return right != 0 ? left / right : 0;
                case MIN:
                    return Math.min(left, right);
                case MAX:
                    return Math.max(left, right);
                case LESS:
                    return left < right ? 1 : 0;
                case GREATER:
                    return left > right ? 1 : 0;
                case EQUAL:
                    return left == right ? 1 : 0;
                case AT_MOST:
                    return left <= right ? 1 : 0;
                case AT_LEAST:
                    return left >= right ? 1 : 0;
                case AND:
                    return left & right;
                default:
                    return left | right;
            }
        }
    }

    /** The orders that are told. */
    private static final class Orders {
        static final int CLIMB = 0;
        static final int DESCEND = 1;
        static final int PROBE = 2;
        static final int FILL = 3;
        static final int DRILL = 4;

        static final int KIND = 0;
        static final int TEAM = 1;
        static final int TARGET = 2;
        static final int SUM_FROM = 3;
        static final int SUM_TO = 4;
        static final int TEST_FROM = 5;
        static final int TEST_TO = 6;

        private final Table table = new Table(MOST_ORDERS);
        private final Formulas formulas = new Formulas();

        int size() {
            return table.rows();
        }

        void clear() {
            table.clear();
            formulas.clear();
        }

        /** Returns whether there was room for one more. */
        boolean add(int kind) {
            int order = table.addRow();
            table.set(order, KIND, kind);
            return order >= 0;
        }

        /** Notes something of the latest order. */
        void note(int column, int value) {
            table.set(table.rows() - 1, column, value);
        }

        /** Returns whether the order is carried out. */
        boolean carryOut(int order, Glacier glacier) {
            int from = table.get(order, TEST_FROM);
            int to = table.get(order, TEST_TO);
            if (from < to && formulas.worth(from, to, glacier) == 0) {
                return false;
            }
            int team = table.get(order, TEAM);
            int target = table.get(order, TARGET);
            switch (table.get(order, KIND)) {
                case CLIMB:
                    return glacier.tryGo(team, true);
                case DESCEND:
                    return glacier.tryGo(team, false);
                case PROBE:
                    return glacier.tryProbe(team, target);
                case FILL:
                    int many = formulas.worth(table.get(order, SUM_FROM), table.get(order, SUM_TO), glacier);
                    return glacier.takeFood(team, many) > 0;
                default:
                    return glacier.tryDrill(target);
            }
        }
    }

    /** All that changes from day to day. */
    private static final class Glacier {
        private final Table bands = new Table(MOST_BANDS);
        private final Table stakes = new Table(MOST_STAKES);
        private final Table crevasses = new Table(MOST_CREVASSES);
        private final Table depots = new Table(MOST_DEPOTS);
        private final Table teams = new Table(MOST_TEAMS);
        private final int[] warmths = new int[WEEK];
        private int day;
        private int carriedOut;

        Glacier() {
            beginAnew(0);
        }

        void beginAnew(int firstDay) {
            bands.clear();
            stakes.clear();
            crevasses.clear();
            depots.clear();
            teams.clear();
            for (int i = 0; i < warmths.length; i++) {
                warmths[i] = USUAL_WARMTH;
            }
            day = firstDay;
            carriedOut = 0;
        }

        void become(Glacier other) {
            bands.become(other.bands);
            stakes.become(other.stakes);
            crevasses.become(other.crevasses);
            depots.become(other.depots);
            teams.become(other.teams);
            for (int i = 0; i < warmths.length && i < other.warmths.length; i++) {
                warmths[i] = other.warmths[i];
            }
            day = other.day;
            carriedOut = other.carriedOut;
        }

        void addBand(int height, int snow) {
            int band = bands.addRow();
            bands.set(band, BAND_HEIGHT, height);
            bands.set(band, BAND_SNOW, snow);
        }

        void addStake(int band, int deep) {
            int stake = stakes.addRow();
            stakes.set(stake, STAKE_BAND, band);
            stakes.set(stake, STAKE_DEEP, deep);
            stakes.set(stake, STAKE_STANDS, 1);
            stakes.set(stake, STAKE_LATEST, -1);
        }

        void addCrevasse(int band, int bridge) {
            int crevasse = crevasses.addRow();
            crevasses.set(crevasse, CREVASSE_BAND, band);
            crevasses.set(crevasse, CREVASSE_BRIDGE, bridge);
            crevasses.set(crevasse, CREVASSE_PROBED, -1);
        }

        void addDepot(int band, int food) {
            int depot = depots.addRow();
            depots.set(depot, DEPOT_BAND, band);
            depots.set(depot, DEPOT_FOOD, food);
        }

        void addTeam(int band, int size, int food) {
            int team = teams.addRow();
            teams.set(team, TEAM_BAND, band);
            teams.set(team, TEAM_SIZE, size);
            teams.set(team, TEAM_SACK, food);
            teams.set(team, TEAM_HERE, 1);
        }

        int day() {
            return day;
        }

        int warmthOf(int weekday) {
            return weekday >= 0 && weekday < warmths.length ? warmths[weekday] : USUAL_WARMTH;
        }

        int warmthToday() {
            return warmthOf(day % WEEK);
        }

        void changeWarmth(int weekday, int warmth) {
            if (weekday >= 0 && weekday < warmths.length) {
                warmths[weekday] = warmth;
            }
        }

        /** What count() tells of 7 to 12. */
        int total(int what) {
            switch (what) {
                case 7:
                    return depots.sum(DEPOT_FOOD);
                case 8:
                    return bands.sum(BAND_LOST);
                case 9:
                    return teams.sum(TEAM_READINGS);
                case 10:
                    return teams.sum(TEAM_FALLS);
                case 11:
                    return carriedOut;
                default:
                    return teams.rows() - teams.sum(TEAM_HERE);
            }
        }

        int bandFact(int band, int what) {
            switch (what) {
                case 3:
                    return teams.matches(TEAM_BAND, band, TEAM_HERE, 1);
                case 4:
                    return stakes.matches(STAKE_BAND, band, STAKE_STANDS, 1);
                case 5:
                    return crevasses.matches(CREVASSE_BAND, band, CREVASSE_BAND, band);
                default:
                    return bands.get(band, what);
            }
        }

        int crevasseFact(int crevasse, int what) {
            int fact = crevasses.get(crevasse, what);
            return what == CREVASSE_KNOWN_FOR ? Math.min(1, fact) : fact;
        }

        /** What a sign of a formula is worth that joins nothing. */
        int valueOf(Sign sign, int which) {
            switch (sign) {
                case DAY:
                    return day % WEEK;
                case WARM:
                    return warmthToday();
                case SNOW:
                    return bands.get(which, BAND_SNOW);
                case OUT:
                    return stakes.get(which, STAKE_OUT);
                case BRIDGE:
                    return crevasses.get(which, CREVASSE_BRIDGE);
                case STOCK:
                    return depots.get(which, DEPOT_FOOD);
                case SACK:
                    return teams.get(which, TEAM_SACK);
                case PLACE:
                    return teams.get(which, TEAM_BAND);
                case STANDING:
                    return stakes.get(which, STAKE_STANDS);
                case HERE:
                    return teams.get(which, TEAM_HERE);
                default:
                    return crevasseFact(which, CREVASSE_KNOWN_FOR);
            }
        }

        boolean isHere(int team) {
            return teams.get(team, TEAM_HERE) == 1;
        }

        private boolean canDo(int team) {
            return teams.get(team, TEAM_HERE) == 1 && teams.get(team, TEAM_DONE) == 0;
        }

        boolean canGo(int team, boolean up) {
            int target = teams.get(team, TEAM_BAND) + (up ? 1 : -1);
            if (!canDo(team) || !bands.has(target)) {
                return false;
            }
            for (int i = 0; i < crevasses.rows(); i++) {
                if (isTooWeak(i, team, up) && crevasses.get(i, CREVASSE_KNOWN_FOR) > 0) {
                    return false;
                }
            }
            return true;
        }

        /** Whether a crevasse is on the way of the team, and does not bear it. */
        private boolean isTooWeak(int crevasse, int team, boolean up) {
            int lower = teams.get(team, TEAM_BAND) - (up ? 0 : 1);
            return crevasses.get(crevasse, CREVASSE_BAND) == lower
                    && crevasses.get(crevasse, CREVASSE_BRIDGE) < BRIDGE_PER_HEAD * teams.get(team, TEAM_SIZE);
        }

        /** The crevasse at which a team that goes falls; -1 if it does not. */
        int fallingPlace(int team, boolean up) {
            int last = crevasses.rows() - 1;
            for (int i = 0; i <= last; i++) {
                int crevasse = up ? i : last - i;
                if (isTooWeak(crevasse, team, up)) {
                    return crevasse;
                }
            }
            return -1;
        }

        /** Returns whether the team can go; if so, it has gone or fallen then. */
        boolean tryGo(int team, boolean up) {
            if (!canGo(team, up)) {
                return false;
            }
            int place = fallingPlace(team, up);
            if (place >= 0) {
                letFall(team, place);
            } else {
                letCross(team, up);
            }
            teams.set(team, TEAM_DONE, 1);
            return true;
        }

        private void letFall(int team, int crevasse) {
            crevasses.set(crevasse, CREVASSE_BRIDGE, 0);
            crevasses.add(crevasse, CREVASSE_FALLS, 1);
            teams.set(team, TEAM_SACK, teams.get(team, TEAM_SACK) / 2);
            teams.add(team, TEAM_FALLS, 1);
        }

        private void letCross(int team, boolean up) {
            int lower = teams.get(team, TEAM_BAND) - (up ? 0 : 1);
            for (int i = 0; i < crevasses.rows(); i++) {
                if (crevasses.get(i, CREVASSE_BAND) == lower) {
                    crevasses.add(i, CREVASSE_CROSSED, 1);
                }
            }
            teams.add(team, TEAM_BAND, up ? 1 : -1);
        }

        /** Returns whether the team can probe; if so, it has. */
        boolean tryProbe(int team, int crevasse) {
            int above = teams.get(team, TEAM_BAND) - crevasses.get(crevasse, CREVASSE_BAND);
            if (!canDo(team) || !crevasses.has(crevasse) || above < 0 || above > 1) {
                return false;
            }
            crevasses.set(crevasse, CREVASSE_KNOWN_FOR, KNOWN_DAYS);
            crevasses.set(crevasse, CREVASSE_PROBED, crevasses.get(crevasse, CREVASSE_BRIDGE));
            teams.set(team, TEAM_DONE, 1);
            return true;
        }

        /** Fills the sack of a team with so much, if it can; returns with how much it did. */
        int takeFood(int team, int many) {
            int depot = firstStore(teams.get(team, TEAM_BAND));
            if (!isHere(team) || depot < 0) {
                return 0;
            }
            int room = MOST_SACK - teams.get(team, TEAM_SACK);
            int taken = Math.min(Math.max(0, Math.min(many, room)), depots.get(depot, DEPOT_FOOD));
            depots.add(depot, DEPOT_FOOD, -taken);
            teams.add(team, TEAM_SACK, taken);
            return taken;
        }

        /** The first depot of a band that has any food; -1 without one. */
        private int firstStore(int band) {
            for (int i = 0; i < depots.rows(); i++) {
                if (depots.get(i, DEPOT_BAND) == band && depots.get(i, DEPOT_FOOD) > 0) {
                    return i;
                }
            }
            return -1;
        }

        /** Returns whether the stake can be drilled anew; if so, it is. */
        boolean tryDrill(int stake) {
            int band = stakes.get(stake, STAKE_BAND);
            boolean lies = stakes.has(stake) && stakes.get(stake, STAKE_STANDS) == 0;
            if (!lies || teams.matches(TEAM_BAND, band, TEAM_HERE, 1) == 0) {
                return false;
            }
            stakes.set(stake, STAKE_STANDS, 1);
            stakes.set(stake, STAKE_OUT, 0);
            return true;
        }

        void passDay(Orders orders) {
            for (int i = 0; i < orders.size(); i++) {
                if (orders.carryOut(i, this)) {
                    carriedOut++;
                }
            }
            for (int i = 0; i < bands.rows(); i++) {
                weather(i);
            }
            for (int i = 0; i < teams.rows(); i++) {
                if (isHere(i)) {
                    eat(i);
                }
            }
            for (int i = 0; i < teams.rows(); i++) {
                if (isHere(i)) {
                    readStakes(i);
                }
            }
            endDay();
        }

        private void weather(int band) {
            int warmth = warmthToday() - bands.get(band, BAND_HEIGHT);
            int snow = bands.get(band, BAND_SNOW);
            if (warmth > 0) {
                int melted = 3 * warmth;
                int offSnow = Math.min(snow, melted);
                bands.add(band, BAND_SNOW, -offSnow);
                bands.add(band, BAND_LOST, melted - offSnow);
                moveStakes(band, melted);
                moveBridges(band, -warmth);
            } else {
                int snowed = Math.min(-warmth / 2, MOST_SNOW - snow);
                bands.add(band, BAND_SNOW, snowed);
                moveStakes(band, -snowed);
                moveBridges(band, snowed);
            }
        }

        private void moveStakes(int band, int change) {
            for (int i = 0; i < stakes.rows(); i++) {
                if (stakes.get(i, STAKE_BAND) == band && stakes.get(i, STAKE_STANDS) == 1) {
                    int out = Math.max(0, stakes.get(i, STAKE_OUT) + change);
                    stakes.set(i, STAKE_OUT, out);
                    stakes.set(i, STAKE_STANDS, out < stakes.get(i, STAKE_DEEP) ? 1 : 0);
                }
            }
        }

        private void moveBridges(int band, int change) {
            for (int i = 0; i < crevasses.rows(); i++) {
                if (crevasses.get(i, CREVASSE_BAND) == band) {
                    int bridge = crevasses.get(i, CREVASSE_BRIDGE) + change;
                    crevasses.set(i, CREVASSE_BRIDGE, Math.max(0, Math.min(bridge, MOST_BRIDGE)));
                }
            }
        }

        private void eat(int team) {
            int lacking = (teams.get(team, TEAM_SIZE) + 1) / 2;
            int eaten = Math.min(lacking, teams.get(team, TEAM_SACK));
            teams.add(team, TEAM_SACK, -eaten);
            lacking -= eaten;
            for (int i = 0; i < depots.rows(); i++) {
                if (depots.get(i, DEPOT_BAND) == teams.get(team, TEAM_BAND)) {
                    eaten = Math.min(lacking, depots.get(i, DEPOT_FOOD));
                    depots.add(i, DEPOT_FOOD, -eaten);
                    lacking -= eaten;
                }
            }
            int hungry = lacking > 0 ? teams.get(team, TEAM_HUNGRY) + 1 : 0;
            teams.set(team, TEAM_HUNGRY, hungry);
            teams.set(team, TEAM_HERE, hungry < HUNGRY_DAYS ? 1 : 0);
        }

        private void readStakes(int team) {
            for (int i = 0; i < stakes.rows(); i++) {
                boolean near = stakes.get(i, STAKE_BAND) == teams.get(team, TEAM_BAND);
                if (near && stakes.get(i, STAKE_STANDS) == 1) {
                    stakes.set(i, STAKE_LATEST, stakes.get(i, STAKE_OUT));
                    stakes.add(i, STAKE_READINGS, 1);
                    teams.add(team, TEAM_READINGS, 1);
                }
            }
        }

        private void endDay() {
            day++;
            for (int i = 0; i < teams.rows(); i++) {
                teams.set(i, TEAM_DONE, 0);
            }
            for (int i = 0; i < crevasses.rows(); i++) {
                crevasses.set(i, CREVASSE_KNOWN_FOR, Math.max(0, crevasses.get(i, CREVASSE_KNOWN_FOR) - 1));
            }
        }
    }
}
