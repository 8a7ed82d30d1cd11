/** A tool crib for machines. The words in capitals are those of the document. */
public final class ToolCrib {
    public static final int NONE = -1, BAD = -2, STATE = -3, FULL = -4;
    public static final long NO = -4611686018427387904L;

    private static final int NOTHING = -11, OUTSIDE = -12, OTHER_SORT = -13, BELOW_ZERO = -14;

    private static final int MOST_EDGES = 24, MOST_TOOLS = 10, MOST_MACHINES = 3, MOST_JOBS = 6;
    private static final int MOST_TEXTS = 6, MOST_SHEETS = 4, MOST_CELLS = 40, MOST_PLACES = 16;
    private static final int TAPE_BYTES = 160, FAMILIES = 10, TRAIL_KEPT = 8, PARTS = 3;
    private static final int SPEEDS = 20, STUFFS = 20, MOST_CUTS = 99, MOST_LIFE = 999;

    private static final int EDGE = 0, INSERT = 1, ROUND = 2, DRILL = 3, STEP = 4, BLADE = 5;
    private static final int GOOD = 0, WORN = 1, BROKEN = 2;
    private static final int PART_WORN = 0, PART_BROKEN = 1, PART_CHECK = 2;
    private static final int BYTES = 0, SHORTS = 1, INTS = 2, MISSING = -1;

    private static final String TEXT_ZERO =
        "worn life < cuts ; broken 500 < cuts * speed ; check reading = nominal ;";

    private final Edge[] edges = new Edge[MOST_EDGES];
    private final Tool[] tools = new Tool[MOST_TOOLS];
    private final Machine[] machines = new Machine[MOST_MACHINES];
    private final Text[] texts = new Text[MOST_TEXTS];
    private final Sheet[] sheets = new Sheet[MOST_SHEETS];
    private final Setter gauge = new Setter();
    private final Jobs jobs = new Jobs();
    private final Tape tape = new Tape();
    private final Reader reader = new Reader(tape);
    private final Stack stack = new Stack();
    private final int[] names = new int[Text.NAMES];
    private int edgeCount;
    private int toolCount;
    private int machineCount;
    private int textCount;
    private int rule;

    public ToolCrib() {
        for (int i = 0; i < MOST_TEXTS; i++) {
            texts[i] = new Text();
        }
        for (int i = 0; i < MOST_SHEETS; i++) {
            sheets[i] = new Sheet();
        }
        for (int i = 0; i < TEXT_ZERO.length(); i++) {
            tape.add((byte) TEXT_ZERO.charAt(i));
        }
        reader.readInto(textOf(0));
        tape.empty();
        textCount = 1;
    }

    public int edge(int kind, int length, int least, int corners, int life) {
        if (!within(kind, EDGE, BLADE) || !within(length, 10, 200) || !within(least, 1, length)) {
            return BAD;
        }
        boolean cornered = isUnder(kind, INSERT);
        if (cornered && !within(corners, 1, 8)) {
            return BAD;
        }
        if (!within(life, 1, MOST_LIFE)) {
            return BAD;
        }
        if (edgeCount >= MOST_EDGES) {
            return FULL;
        }
        edges[edgeCount] = new Edge(kind, length, least, cornered ? corners - 1 : 0, life);
        edgeCount++;
        return edgeCount - 1;
    }

    public int edgeTold(int edge, int what) {
        Edge e = edgeOf(edge);
        if (e == null) {
            return BAD;
        }
        switch (what) {
            case 0: return e.kind;
            case 1: return e.length;
            case 2: return e.least;
            case 3: return e.left;
            case 4: return e.life;
            case 5: return e.state;
            case 6: return e.cutsDone;
            case 7: return e.inTool;
            default: return BAD;
        }
    }

    public long used(int edge, int what) {
        Edge e = edgeOf(edge);
        if (e == null || !within(what, 0, 1)) {
            return NO;
        }
        long shared = commonDivisor(e.wearSoFar, e.wearInAll());
        return (what == 0 ? e.wearSoFar : e.wearInAll()) / shared;
    }

    public int wear(int edge, int speed, int stuff) {
        Edge e = edgeOf(edge);
        if (e == null || !within(speed, 1, SPEEDS) || !within(stuff, 1, STUFFS)) {
            return BAD;
        }
        return wearOf(e.kind, speed, stuff);
    }

    public int turn(int edge) {
        Edge e = edgeOf(edge);
        if (e == null) {
            return BAD;
        }
        if (!isUnder(e.kind, INSERT)) {
            return OTHER_SORT;
        }
        if (e.state == BROKEN || e.left == 0) {
            return STATE;
        }
        e.left--;
        e.renew();
        return e.left;
    }

    public int grind(int edge, int n) {
        Edge e = edgeOf(edge);
        if (e == null || !within(n, 1, 50)) {
            return BAD;
        }
        if (isUnder(e.kind, INSERT)) {
            return OTHER_SORT;
        }
        if (e.state == BROKEN || e.length - n < e.least) {
            return STATE;
        }
        e.length -= n;
        e.renew();
        return e.length;
    }

    public int trail(int edge, int i) {
        Edge e = edgeOf(edge);
        if (e == null) {
            return BAD;
        }
        return e.trailAt(i);
    }

    // ---- tools

    public int tool(int holder, int edge, int size, int family) {
        Edge e = edgeOf(edge);
        if (!within(holder, 20, 300) || e == null || !within(size, 1, 3) || !isFamily(family)) {
            return BAD;
        }
        if (e.inTool != NONE) {
            return STATE;
        }
        if (toolCount >= MOST_TOOLS) {
            return FULL;
        }
        tools[toolCount] = new Tool(holder, edge, e, size, family);
        e.inTool = toolCount;
        toolCount++;
        return toolCount - 1;
    }

    public int toolTold(int tool, int what) {
        Tool t = toolOf(tool);
        if (t == null) {
            return BAD;
        }
        switch (what) {
            case 0: return t.holder;
            case 1: return t.edgeNumber;
            case 2: return t.size;
            case 3: return t.family;
            case 4: return t.nominal();
            case 5: return t.measured;
            case 6: return t.inMachine;
            case 7: return t.atPlace;
            default: return BAD;
        }
    }

    public int setter(int off, int drift) {
        if (!within(off, -50, 50) || !within(drift, -20, 20)) {
            return BAD;
        }
        gauge.off = off;
        gauge.drift = drift;
        return 1;
    }

    public int calibrate(int master) {
        if (!within(master, 100, 400)) {
            return BAD;
        }
        gauge.offset = master - gauge.reads(master);
        return gauge.offset;
    }

    public int measure(int tool) {
        Tool t = toolOf(tool);
        if (t == null) {
            return BAD;
        }
        t.measured = gauge.reads(t.nominal()) + gauge.offset;
        return t.measured;
    }

    public int feed(int n, long bytes) {
        if (!within(n, 1, 8)) {
            return BAD;
        }
        if (tape.size + n > TAPE_BYTES) {
            return FULL;
        }
        for (int i = 0; i < n; i++) {
            tape.add((byte) (bytes >> (8 * i)));
        }
        return tape.size;
    }

    public int text() {
        if (textCount >= MOST_TEXTS) {
            return FULL;
        }
        int fault = reader.readInto(textOf(textCount));
        tape.empty();
        if (fault != NONE) {
            return -100 - fault;
        }
        textCount++;
        return textCount - 1;
    }

    public int force(int text) {
        if (!within(text, 0, textCount - 1)) {
            return BAD;
        }
        int before = rule;
        rule = text;
        return before;
    }

    public long says(int tool, int part) {
        Tool t = toolOf(tool);
        if (t == null || !within(part, 0, PARTS - 1)) {
            return NO;
        }
        return ruleFor(t, part);
    }

    // ---- machines

    public int machine(int speed, int places) {
        if (!within(speed, 1, SPEEDS) || !within(places, 4, MOST_PLACES)) {
            return BAD;
        }
        if (machineCount >= MOST_MACHINES) {
            return FULL;
        }
        machines[machineCount] = new Machine(speed, places);
        machineCount++;
        return machineCount - 1;
    }

    public int put(int machine, int tool, int place) {
        Machine m = machineOf(machine);
        Tool t = toolOf(tool);
        if (m == null || t == null || !m.hasPlace(place)) {
            return BAD;
        }
        if (t.inMachine != NONE || !m.hasRoom(place, t.size)) {
            return STATE;
        }
        if (ruleFor(t, PART_CHECK) == 0) {
            return STATE;
        }
        m.hold(place, t.size, tool);
        t.inMachine = machine;
        t.atPlace = place;
        return 1;
    }

    public int take(int tool) {
        Tool t = toolOf(tool);
        if (t == null) {
            return BAD;
        }
        int from = t.inMachine;
        Machine m = machineOf(from);
        if (m == null) {
            return STATE;
        }
        m.hold(t.atPlace, t.size, NONE);
        t.inMachine = NONE;
        t.atPlace = NONE;
        return from;
    }

    public int at(int machine, int place) {
        Machine m = machineOf(machine);
        if (m == null || !m.hasPlace(place)) {
            return BAD;
        }
        return m.heldAt(place);
    }

    public int room(int machine, int tool) {
        Machine m = machineOf(machine);
        Tool t = toolOf(tool);
        if (m == null || t == null) {
            return BAD;
        }
        return m.leastRoom(t.size);
    }

    public int cut(int machine, int family, int cuts, int stuff) {
        Machine m = machineOf(machine);
        if (m == null || !isFamily(family) || !within(cuts, 1, MOST_CUTS) || !within(stuff, 1, STUFFS)) {
            return BAD;
        }
        int taker = takerOf(machine, family);
        Tool t = toolOf(taker);
        if (t == null) {
            return STATE;
        }
        Edge e = t.edge;
        e.cutBy(cuts, m.speed, stuff);
        e.follow(machine);
        if (ruleFor(t, PART_BROKEN) != 0) {
            e.state = BROKEN;
        } else if (e.wearSoFar >= e.wearInAll() || ruleFor(t, PART_WORN) != 0) {
            e.state = WORN;
        }
        return taker;
    }

    // ---- jobs

    public int job(int wants) {
        if (!within(wants, 1, (1 << FAMILIES) - 1) || Integer.bitCount(wants) > 5) {
            return BAD;
        }
        return jobs.add(wants);
    }

    public int changes(long order, int r) {
        if (!within(r, 1, Jobs.MOST_ROOM) || !jobs.readOrder(order)) {
            return BAD;
        }
        return jobs.changesOfRow(r);
    }

    public int order(int r, int i) {
        if (!within(r, 1, Jobs.MOST_ROOM)) {
            return BAD;
        }
        int fewest = jobs.fewestChanges(r);
        if (i == -1 || fewest == NONE) {
            return fewest;
        }
        return jobs.bestAt(r, i);
    }

    public int count(int what) {
        switch (what) {
            case 0: return edgeCount;
            case 1: return toolCount;
            case 2: return machineCount;
            case 3: return jobs.count;
            case 4: return textCount;
            case 5: return tape.size;
            case 6: return rule;
            case 7: return gauge.offset;
            case 8: return edgesNotGood();
            default: return BAD;
        }
    }

    // ---- the host

    public int sheet(int sheet, int sort, int n) {
        Sheet s = sheetOf(sheet);
        if (s == null || !within(sort, MISSING, INTS)) {
            return BAD;
        }
        if (sort == MISSING) {
            s.become(MISSING, 0);
            return 1;
        }
        if (n > MOST_CELLS) {
            return BAD;
        }
        if (n < 0) {
            return BELOW_ZERO;
        }
        s.become(sort, n);
        return 1;
    }

    public int cell(int sheet, int i, int v) {
        Sheet s = sheetOf(sheet);
        if (s == null) {
            return BAD;
        }
        if (s.sort == MISSING) {
            return NOTHING;
        }
        if (!s.has(i)) {
            return OUTSIDE;
        }
        s.set(i, v);
        return 1;
    }

    public int cuts(int machine, int sheet, int sort, int from, int n) {
        Sheet s = sheetOf(sheet);
        if (machineOf(machine) == null || s == null || !within(sort, BYTES, INTS) || !within(n, 0, 13)) {
            return BAD;
        }
        // a missing SHEET is of no sort, so that it isn't of another one either
        if (s.sort == MISSING) {
            return NOTHING;
        }
        if (s.sort != sort) {
            return OTHER_SORT;
        }
        return cutBySheet(machine, s, from, n);
    }

    public int taken(int edge, int k) {
        if (!within(k, EDGE, BLADE)) {
            return BAD;
        }
        Edge e = edgeOf(edge);
        if (e == null) {
            return NOTHING;
        }
        return isUnder(e.kind, k) ? e.length : OTHER_SORT;
    }

    // ---- what the calls share

    private static boolean within(int n, int least, int most) {
        return n >= least && n <= most;
    }

    private static boolean isFamily(int n) {
        return within(n, 0, FAMILIES - 1);
    }

    private Edge edgeOf(int n) {
        return within(n, 0, MOST_EDGES - 1) ? edges[n] : null;
    }

    private Tool toolOf(int n) {
        return within(n, 0, MOST_TOOLS - 1) ? tools[n] : null;
    }

    private Text textOf(int n) {
        return within(n, 0, MOST_TEXTS - 1) ? texts[n] : null;
    }

    private Machine machineOf(int n) {
        return within(n, 0, MOST_MACHINES - 1) ? machines[n] : null;
    }

    private Sheet sheetOf(int n) {
        return within(n, 0, MOST_SHEETS - 1) ? sheets[n] : null;
    }

    /** Whether a KIND is k or stands under it. */
    private static boolean isUnder(int kind, int k) {
        switch (k) {
            case EDGE: return true;
            case INSERT: return kind == INSERT || kind == ROUND || kind == BLADE;
            case DRILL: return kind == DRILL || kind == STEP;
            default: return kind == k;
        }
    }

    private static int wearOf(int kind, int speed, int stuff) {
        int plain = speed * stuff;
        switch (kind) {
            case INSERT: return plain + stuff;
            case ROUND: return Math.max(1, plain + stuff - speed);
            case DRILL: return 2 * plain;
            case STEP: return 2 * plain + speed;
            case BLADE: return plain + stuff + plain;
            default: return plain;
        }
    }

    /** b is above 0; the counter's bound stands far above what numbers of this size need. */
    private static long commonDivisor(long a, long b) {
        long x = b;
        long y = a;
        for (int i = 0; i < 200 && y != 0; i++) {
            long rest = x % y;
            x = y;
            y = rest;
        }
        return x == 0 ? 1 : x;
    }

    private int edgesNotGood() {
        int n = 0;
        for (int i = 0; i < edgeCount; i++) {
            Edge e = edgeOf(i);
            if (e != null && e.state != GOOD) {
                n++;
            }
        }
        return n;
    }

    /** What a part of THE RULE comes to for a TOOL. */
    private int ruleFor(Tool t, int part) {
        Text text = textOf(rule);
        if (text == null) {
            return 0;
        }
        Edge e = t.edge;
        names[-1 - Text.CUTS] = e.cutsDone;
        names[-1 - Text.SPEED] = e.lastSpeed;
        names[-1 - Text.STUFF] = e.lastStuff;
        names[-1 - Text.LIFE] = e.life;
        names[-1 - Text.READING] = t.measured;
        names[-1 - Text.NOMINAL] = t.nominal();
        return text.valueOf(part, names, stack);
    }

    /** The TOOL of a FAMILY in a MACHINE's magazine that takes the next CUT, or NONE. */
    private int takerOf(int machine, int family) {
        int best = NONE;
        Edge most = null;
        for (int i = 0; i < toolCount; i++) {
            Tool t = toolOf(i);
            if (t == null || t.inMachine != machine || t.family != family || t.edge.state != GOOD) {
                continue;
            }
            if (most == null || t.edge.isMoreUsedThan(most)) {
                best = i;
                most = t.edge;
            }
        }
        return best;
    }

    private int cutBySheet(int machine, Sheet s, int from, int n) {
        int done = 0;
        int at = from;
        for (int k = 0; k < n; k++) {
            // the first is looked at alone: at + 2 could wrap
            if (!s.has(at) || !s.has(at + 2)) {
                return OUTSIDE;
            }
            if (cut(machine, s.get(at), s.get(at + 1), s.get(at + 2)) >= 0) {
                done++;
            }
            at += 3;
        }
        return done;
    }

    private static final class Edge {
        final int kind;
        final int least;
        final int life;
        final int[] trail = new int[TRAIL_KEPT];
        int trailSize;
        int length;
        int left;
        int state = GOOD;
        int cutsDone;
        int lastSpeed;
        int lastStuff;
        int inTool = NONE;
        /** USED is this by wearInAll(): all SHARES of one EDGE have that below the line. */
        long wearSoFar;

        Edge(int kind, int length, int least, int left, int life) {
            this.kind = kind;
            this.length = length;
            this.least = least;
            this.left = left;
            this.life = life;
        }

        long wearInAll() {
            return 100L * life;
        }

        boolean isMoreUsedThan(Edge other) {
            return wearSoFar * other.wearInAll() > other.wearSoFar * wearInAll();
        }

        void renew() {
            wearSoFar = 0;
            cutsDone = 0;
            state = GOOD;
        }

        void cutBy(int c, int speed, int stuff) {
            cutsDone += c;
            wearSoFar += (long) c * wearOf(kind, speed, stuff);
            lastSpeed = speed;
            lastStuff = stuff;
        }

        int trailAt(int i) {
            return i >= 0 && i < trailSize && i < TRAIL_KEPT ? trail[i] : NONE;
        }

        void follow(int machine) {
            if (trailAt(trailSize - 1) == machine) {
                return;
            }
            if (trailSize >= TRAIL_KEPT) {
                for (int i = 1; i < TRAIL_KEPT; i++) {
                    trail[i - 1] = trail[i];
                }
                trailSize = TRAIL_KEPT - 1;
            }
            trail[trailSize] = machine;
            trailSize++;
        }
    }

    private static final class Tool {
        final int holder;
        final int edgeNumber;
        final Edge edge;
        final int size;
        final int family;
        int measured;
        int inMachine = NONE;
        int atPlace = NONE;

        Tool(int holder, int edgeNumber, Edge edge, int size, int family) {
            this.holder = holder;
            this.edgeNumber = edgeNumber;
            this.edge = edge;
            this.size = size;
            this.family = family;
        }

        int nominal() {
            return holder + edge.length;
        }
    }

    private static final class Setter {
        int off;
        int drift;
        int offset;

        int reads(int nominal) {
            return (nominal - off) * (1000 + drift) / 1000;
        }
    }

    private static final class Machine {
        final int speed;
        final int places;
        private final int[] held = new int[MOST_PLACES];

        Machine(int speed, int places) {
            this.speed = speed;
            this.places = places;
            for (int i = 0; i < MOST_PLACES; i++) {
                held[i] = NONE;
            }
        }

        boolean hasPlace(int place) {
            return place >= 0 && place < places && place < MOST_PLACES;
        }

        int heldAt(int place) {
            return hasPlace(place) ? held[place] : NONE;
        }

        boolean hasRoom(int place, int size) {
            for (int i = 0; i < size; i++) {
                if (!hasPlace(place + i) || held[place + i] != NONE) {
                    return false;
                }
            }
            return true;
        }

        int leastRoom(int size) {
            for (int p = 0; p < places; p++) {
                if (hasRoom(p, size)) {
                    return p;
                }
            }
            return NONE;
        }

        void hold(int place, int size, int tool) {
            for (int i = 0; i < size; i++) {
                if (hasPlace(place + i)) {
                    held[place + i] = tool;
                }
            }
        }
    }

    private static final class Sheet {
        int sort = MISSING;
        private int size;
        private final int[] cells = new int[MOST_CELLS];

        void become(int newSort, int n) {
            sort = newSort;
            size = n;
            for (int i = 0; i < MOST_CELLS; i++) {
                cells[i] = 0;
            }
        }

        boolean has(int i) {
            return i >= 0 && i < size && i < MOST_CELLS;
        }

        int get(int i) {
            return has(i) ? cells[i] : 0;
        }

        void set(int i, int v) {
            if (!has(i)) {
                return;
            }
            if (sort == BYTES) {
                cells[i] = (byte) v;
            } else if (sort == SHORTS) {
                cells[i] = (short) v;
            } else {
                cells[i] = v;
            }
        }
    }

    /** A TEXT, told as steps over a stack: a step from 0 on is a NUMBER, one below 0 a NAME or a sign. */
    private static final class Text {
        static final int CUTS = -1, SPEED = -2, STUFF = -3, LIFE = -4, READING = -5, NOMINAL = -6;
        static final int NAMES = 6;
        static final int NEGATE = -7, NOT = -8, TIMES = -9, PLUS = -10, MINUS = -11;
        static final int BELOW = -12, SAME = -13, AND = -14, OR = -15;

        private final int[] steps = new int[TAPE_BYTES];
        private final int[] ends = new int[PARTS];
        private int size;
        private int closed;

        void clear() {
            size = 0;
            closed = 0;
        }

        void add(int step) {
            if (size < TAPE_BYTES) {
                steps[size] = step;
                size++;
            }
        }

        void closePart() {
            if (closed < PARTS) {
                ends[closed] = size;
                closed++;
            }
        }

        int valueOf(int part, int[] names, Stack stack) {
            if (part < 0 || part >= closed || part >= PARTS) {
                return 0;
            }
            int from = part == 0 ? 0 : ends[part - 1];
            stack.clear();
            for (int i = from; i < ends[part] && i < TAPE_BYTES; i++) {
                stack.push(resultOf(steps[i], names, stack));
            }
            return stack.pop();
        }

        private static int resultOf(int step, int[] names, Stack stack) {
            if (step >= 0) {
                return step;
            }
            int name = -1 - step;
            if (name < NAMES && name < names.length) {
                return names[name];
            }
            int right = stack.pop();
            if (step == NEGATE) {
                return -right;
            }
            if (step == NOT) {
                return right == 0 ? 1 : 0;
            }
            return joined(step, stack.pop(), right);
        }

        private static int joined(int step, int left, int right) {
            switch (step) {
                case TIMES: return left * right;
                case PLUS: return left + right;
                case MINUS: return left - right;
                case BELOW: return left < right ? 1 : 0;
                case SAME: return left == right ? 1 : 0;
                case AND: return left != 0 && right != 0 ? 1 : 0;
                case OR: return left != 0 || right != 0 ? 1 : 0;
                default: return 0;
            }
        }
    }

    /** Numbers that wait. Six levels of ( ) with five that wait in each are the most a TEXT needs. */
    private static final class Stack {
        private static final int DEEPEST = 64;
        private final int[] waiting = new int[DEEPEST];
        private int height;

        void clear() {
            height = 0;
        }

        void push(int n) {
            if (height < DEEPEST) {
                waiting[height] = n;
                height++;
            }
        }

        int pop() {
            if (height <= 0) {
                return 0;
            }
            height--;
            return waiting[height];
        }
    }

    /** THE TAPE, and the TOKENS that stand on it. */
    private static final class Tape {
        private static final int MOST_DIGITS = 4;
        /** A token from 0 on is a NUMBER; NAMES, not, and, or are told as the steps of a Text. */
        static final int END = -20, UNKNOWN = -21, KEY_WORN = -22, KEY_BROKEN = -23, KEY_CHECK = -24;
        /** Signs are told as their bytes, but below 0. */
        static final int OPENS = -'(', CLOSES = -')', STOP = -';', PLUS = -'+', MINUS = -'-';
        static final int TIMES = -'*', BELOW = -'<', SAME = -'=';

        private final byte[] bytes = new byte[TAPE_BYTES];
        private final int[] tokens = new int[TAPE_BYTES];
        private final int[] places = new int[TAPE_BYTES];
        int size;
        private int tokenCount;

        void add(byte b) {
            if (size < TAPE_BYTES) {
                bytes[size] = b;
                size++;
            }
        }

        void empty() {
            size = 0;
        }

        void split() {
            tokenCount = 0;
            for (int i = 0; i < size; i++) {
                if (isBegin(i)) {
                    keep(tokenFrom(i), i);
                }
            }
        }

        private void keep(int token, int place) {
            if (tokenCount < TAPE_BYTES) {
                tokens[tokenCount] = token;
                places[tokenCount] = place;
                tokenCount++;
            }
        }

        /** Behind the tokens stands END, at the text's size. */
        int tokenAt(int i) {
            return i >= 0 && i < tokenCount && i < TAPE_BYTES ? tokens[i] : END;
        }

        int placeAt(int i) {
            return i >= 0 && i < tokenCount && i < TAPE_BYTES ? places[i] : size;
        }

        private int byteAt(int i) {
            return i >= 0 && i < size && i < TAPE_BYTES ? bytes[i] : 0;
        }

        private boolean isBegin(int i) {
            int b = byteAt(i);
            return b != 32 && b != 10 && !isOneRun(byteAt(i - 1), b);
        }

        private static boolean isOneRun(int before, int b) {
            return isLetter(before) && isLetter(b) || isDigit(before) && isDigit(b);
        }

        private static boolean isLetter(int b) {
            return b >= 'a' && b <= 'z';
        }

        private static boolean isDigit(int b) {
            return b >= '0' && b <= '9';
        }

        private int tokenFrom(int from) {
            int b = byteAt(from);
            int end = from + 1;
            while (end < size && isOneRun(b, byteAt(end))) {
                end++;
            }
            if (isLetter(b)) {
                return wordOf(from, end - from);
            }
            if (isDigit(b)) {
                return numberOf(from, end - from);
            }
            return signOf(b);
        }

        private int numberOf(int from, int digits) {
            if (digits > MOST_DIGITS) {
                return UNKNOWN;
            }
            int number = 0;
            for (int i = 0; i < digits; i++) {
                number = number * 10 + (byteAt(from + i) - '0');
            }
            return number;
        }

        private static int signOf(int b) {
            switch (b) {
                case '(':
                case ')':
                case ';':
                case '+':
                case '-':
                case '*':
                case '<':
                case '=':
                    return -b;
                default:
                    return UNKNOWN;
            }
        }

        private int wordOf(int from, int letters) {
            if (isWord("cuts", from, letters)) return Text.CUTS;
            if (isWord("speed", from, letters)) return Text.SPEED;
            if (isWord("stuff", from, letters)) return Text.STUFF;
            if (isWord("life", from, letters)) return Text.LIFE;
            if (isWord("reading", from, letters)) return Text.READING;
            if (isWord("nominal", from, letters)) return Text.NOMINAL;
            if (isWord("worn", from, letters)) return KEY_WORN;
            if (isWord("broken", from, letters)) return KEY_BROKEN;
            if (isWord("check", from, letters)) return KEY_CHECK;
            if (isWord("or", from, letters)) return Text.OR;
            if (isWord("and", from, letters)) return Text.AND;
            if (isWord("not", from, letters)) return Text.NOT;
            return UNKNOWN;
        }

        private boolean isWord(String word, int from, int letters) {
            if (letters != word.length()) {
                return false;
            }
            for (int i = 0; i < word.length(); i++) {
                if (byteAt(from + i) != word.charAt(i)) {
                    return false;
                }
            }
            return true;
        }
    }

    /** Reads THE TAPE's TOKENS as a TEXT: one method a line of the grammar, with one TOKEN ahead. */
    private static final class Reader {
        private static final int MOST_OPEN = 5;

        private final Tape tape;
        private Text text;
        private int at;
        private int token;
        private int fault;

        Reader(Tape tape) {
            this.tape = tape;
        }

        /** The place of the FAULT, or NONE: then the TEXT stands in the row that was given. */
        int readInto(Text row) {
            if (row == null) {
                return 0;
            }
            text = row;
            text.clear();
            tape.split();
            fault = NONE;
            at = 0;
            token = tape.tokenAt(0);
            readPart(Tape.KEY_WORN);
            readPart(Tape.KEY_BROKEN);
            readPart(Tape.KEY_CHECK);
            expect(Tape.END);
            return fault;
        }

        private void readPart(int key) {
            expect(key);
            readEither(0);
            expect(Tape.STOP);
            text.closePart();
        }

        private void readEither(int open) {
            readBoth(open);
            for (int i = 0; i < TAPE_BYTES && accept(Text.OR); i++) {
                readBoth(open);
                text.add(Text.OR);
            }
        }

        private void readBoth(int open) {
            readNot(open);
            for (int i = 0; i < TAPE_BYTES && accept(Text.AND); i++) {
                readNot(open);
                text.add(Text.AND);
            }
        }

        private void readNot(int open) {
            if (token == Text.NOT) {
                if (mayOpen(open)) {
                    readNot(open + 1);
                    text.add(Text.NOT);
                }
                return;
            }
            readSum(open);
            if (accept(Tape.BELOW)) {
                readSum(open);
                text.add(Text.BELOW);
            } else if (accept(Tape.SAME)) {
                readSum(open);
                text.add(Text.SAME);
            }
        }

        private void readSum(int open) {
            readTerm(open);
            for (int i = 0; i < TAPE_BYTES && (token == Tape.PLUS || token == Tape.MINUS); i++) {
                int step = token == Tape.PLUS ? Text.PLUS : Text.MINUS;
                advance();
                readTerm(open);
                text.add(step);
            }
        }

        private void readTerm(int open) {
            readOne(open);
            for (int i = 0; i < TAPE_BYTES && accept(Tape.TIMES); i++) {
                readOne(open);
                text.add(Text.TIMES);
            }
        }

        private void readOne(int open) {
            if (token >= Text.NOMINAL) {
                text.add(token);
                advance();
            } else if (token == Tape.MINUS) {
                if (mayOpen(open)) {
                    readOne(open + 1);
                    text.add(Text.NEGATE);
                }
            } else if (token == Tape.OPENS) {
                if (mayOpen(open)) {
                    readEither(open + 1);
                    expect(Tape.CLOSES);
                }
            } else {
                refuse();
            }
        }

        /** Passes a ( , not or - if fewer than 5 are open. */
        private boolean mayOpen(int open) {
            if (open >= MOST_OPEN) {
                refuse();
                return false;
            }
            advance();
            return true;
        }

        private boolean accept(int wanted) {
            if (token != wanted) {
                return false;
            }
            advance();
            return true;
        }

        private void expect(int wanted) {
            if (token == wanted) {
                advance();
            } else {
                refuse();
            }
        }

        /** The first FAULT counts; behind it every token is UNKNOWN, so that nothing more is read. */
        private void refuse() {
            if (fault == NONE) {
                fault = tape.placeAt(at);
            }
            token = Tape.UNKNOWN;
        }

        private void advance() {
            at++;
            token = tape.tokenAt(at);
        }
    }

    /** JOBS, the CHANGES of an order of them, and THE ORDER for each room, kept till a JOB comes. */
    private static final class Jobs {
        static final int MOST_ROOM = 9;
        private static final int ORDERS = 720, UNKNOWN = -2;

        int count;
        private final int[] wants = new int[MOST_JOBS];
        private final int[] row = new int[MOST_JOBS];
        private final int[] fewest = new int[MOST_ROOM + 1];
        private final int[][] best = new int[MOST_ROOM + 1][MOST_JOBS];

        Jobs() {
            forget();
        }

        private void forget() {
            for (int r = 0; r <= MOST_ROOM; r++) {
                fewest[r] = UNKNOWN;
            }
        }

        int add(int families) {
            if (count >= MOST_JOBS) {
                return FULL;
            }
            wants[count] = families;
            count++;
            forget();
            return count - 1;
        }

        /** What the JOB wants that stands i-th in the row. */
        private int wantsAt(int i) {
            if (i < 0 || i >= MOST_JOBS) {
                return 0;
            }
            int j = row[i];
            return j >= 0 && j < MOST_JOBS ? wants[j] : 0;
        }

        /** Whether an order names each JOB just once: then it stands in the row. */
        boolean readOrder(long order) {
            long rest = order;
            int seen = 0;
            for (int i = 0; i < count && i < MOST_JOBS; i++) {
                int j = (int) (rest % 6);
                rest /= 6;
                if (j < 0 || j >= count || (seen >> j & 1) != 0) {
                    return false;
                }
                seen |= 1 << j;
                row[i] = j;
            }
            return rest == 0;
        }

        /** CHANGES for the row's order with room for r, or NONE. */
        int changesOfRow(int r) {
            int there = 0;
            int done = 0;
            for (int i = 0; i < count; i++) {
                int wanted = wantsAt(i);
                if (Integer.bitCount(wanted) > r) {
                    return NONE;
                }
                done += Integer.bitCount(wanted & ~there);
                there |= wanted;
                for (int over = Integer.bitCount(there) - r; over > 0; over--) {
                    there &= ~outgoing(there & ~wanted, i + 1);
                }
            }
            return done;
        }

        /** Of some FAMILIES the one that the JOBS from a place of the row on want again last, as a bit. */
        private int outgoing(int families, int from) {
            int last = families;
            for (int i = from; i < count; i++) {
                int later = last & ~wantsAt(i);
                if (later == 0) {
                    break;
                }
                last = later;
            }
            return greatestOf(last);
        }

        private static int greatestOf(int families) {
            for (int f = FAMILIES - 1; f > 0; f--) {
                if ((families >> f & 1) != 0) {
                    return 1 << f;
                }
            }
            return 1;
        }

        int fewestChanges(int r) {
            if (r < 1 || r > MOST_ROOM) {
                return NONE;
            }
            if (fewest[r] == UNKNOWN) {
                findBest(r);
            }
            return fewest[r];
        }

        int bestAt(int r, int i) {
            return r >= 1 && r <= MOST_ROOM && i >= 0 && i < count && i < MOST_JOBS ? best[r][i] : NONE;
        }

        /** Tries the orders as they follow one another by numbers, so that the first of like ones stays. */
        private void findBest(int r) {
            for (int i = 0; i < MOST_JOBS; i++) {
                row[i] = i;
            }
            keepRow(r, changesOfRow(r));
            // a JOB that has no room in one order has none in the others
            for (int n = 1; n < ORDERS && fewest[r] > 0 && nextRow(); n++) {
                int done = changesOfRow(r);
                if (done < fewest[r]) {
                    keepRow(r, done);
                }
            }
        }

        private void keepRow(int r, int done) {
            fewest[r] = done;
            for (int i = 0; i < MOST_JOBS; i++) {
                best[r][i] = row[i];
            }
        }

        /** The row becomes the order that follows it by numbers; false: it was the last. */
        private boolean nextRow() {
            int i = count - 2;
            while (i >= 0 && row[i] > row[i + 1]) {
                i--;
            }
            if (i < 0) {
                return false;
            }
            int j = count - 1;
            while (j > i && row[j] < row[i]) {
                j--;
            }
            swap(i, j);
            int low = i + 1;
            int high = count - 1;
            while (low < high) {
                swap(low, high);
                low++;
                high--;
            }
            return true;
        }

        private void swap(int i, int j) {
            int held = row[i];
            row[i] = row[j];
            row[j] = held;
        }
    }
}
