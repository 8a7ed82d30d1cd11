import java.math.BigInteger;
import java.util.ArrayList;
import java.util.Arrays;
import java.util.List;
import java.util.TreeMap;

/** The document once more, in other ways than the program's, with the whole Java library: what it answers is due. */
final class Model {
    static final class Edge {
        int kind, length, least, left, life, state, cuts, speed, stuff;
        BigInteger above = BigInteger.ZERO, below = BigInteger.ONE;
        List<Integer> trail = new ArrayList<>();

        void add(long a, long b) {
            BigInteger n = above.multiply(BigInteger.valueOf(b)).add(below.multiply(BigInteger.valueOf(a)));
            BigInteger d = below.multiply(BigInteger.valueOf(b));
            BigInteger g = n.gcd(d);
            above = n.divide(g);
            below = d.divide(g);
        }

        void renew() {
            above = BigInteger.ZERO;
            below = BigInteger.ONE;
            state = 0;
            cuts = 0;
        }
    }

    static final class Tool {
        int holder, edge, size, family, measured, machine = -1, place = -1;
    }

    static final class Machine {
        int speed, places;
    }

    static final int[] ABOVE = {-1, 0, 1, 0, 3, 1};
    final List<Edge> edges = new ArrayList<>();
    final List<Tool> tools = new ArrayList<>();
    final List<Machine> machines = new ArrayList<>();
    final List<Integer> jobs = new ArrayList<>();
    final List<List<List<String>>> texts = new ArrayList<>();
    final TreeMap<Integer, Object> sheets = new TreeMap<>();
    final StringBuilder tape = new StringBuilder();
    int rule, off, drift, offset;

    Model() {
        tape.append("worn life < cuts ; broken 500 < cuts * speed ; check reading = nominal ;");
        text();
    }

    static boolean in(int n, int least, int most) {
        return n >= least && n <= most;
    }

    static boolean under(int kind, int k) {
        for (int up = kind; up >= 0; up = ABOVE[up]) {
            if (up == k) {
                return true;
            }
        }
        return false;
    }

    static int wearOf(int kind, int s, int h) {
        switch (kind) {
            case 0: return s * h;
            case 1: return wearOf(0, s, h) + h;
            case 2: return Math.max(wearOf(1, s, h) - s, 1);
            case 3: return wearOf(0, s, h) * 2;
            case 4: return wearOf(3, s, h) + s;
            default: return wearOf(1, s, h) + wearOf(0, s, h);
        }
    }

    boolean noEdge(int e) {
        return !in(e, 0, edges.size() - 1);
    }

    boolean noTool(int t) {
        return !in(t, 0, tools.size() - 1);
    }

    boolean noMachine(int m) {
        return !in(m, 0, machines.size() - 1);
    }

    int edge(int kind, int length, int least, int corners, int life) {
        if (!in(kind, 0, 5) || !in(length, 10, 200) || !in(least, 1, length)) return -2;
        if (under(kind, 1) && !in(corners, 1, 8) || !in(life, 1, 999)) return -2;
        if (edges.size() == 24) return -4;
        Edge e = new Edge();
        e.kind = kind;
        e.length = length;
        e.least = least;
        e.left = (under(kind, 1) ? corners : 1) - 1;
        e.life = life;
        edges.add(e);
        return edges.size() - 1;
    }

    int toolOfEdge(int edge) {
        for (int t = 0; t < tools.size(); t++) {
            if (tools.get(t).edge == edge) return t;
        }
        return -1;
    }

    int edgeTold(int edge, int what) {
        if (noEdge(edge) || !in(what, 0, 7)) return -2;
        Edge e = edges.get(edge);
        return new int[] {e.kind, e.length, e.least, e.left, e.life, e.state, e.cuts, toolOfEdge(edge)}[what];
    }

    long used(int edge, int what) {
        if (noEdge(edge) || !in(what, 0, 1)) return -4611686018427387904L;
        return (what == 0 ? edges.get(edge).above : edges.get(edge).below).longValueExact();
    }

    int wear(int edge, int speed, int stuff) {
        if (noEdge(edge) || !in(speed, 1, 20) || !in(stuff, 1, 20)) return -2;
        return wearOf(edges.get(edge).kind, speed, stuff);
    }

    int turn(int edge) {
        if (noEdge(edge)) return -2;
        Edge e = edges.get(edge);
        if (!under(e.kind, 1)) return -13;
        if (e.state == 2 || e.left < 1) return -3;
        e.renew();
        return --e.left;
    }

    int grind(int edge, int n) {
        if (noEdge(edge) || !in(n, 1, 50)) return -2;
        Edge e = edges.get(edge);
        if (under(e.kind, 1)) return -13;
        if (e.state == 2 || e.length - n < e.least) return -3;
        e.renew();
        return e.length -= n;
    }

    int trail(int edge, int i) {
        if (noEdge(edge)) return -2;
        List<Integer> all = edges.get(edge).trail;
        List<Integer> kept = all.subList(Math.max(0, all.size() - 8), all.size());
        return in(i, 0, kept.size() - 1) ? kept.get(i) : -1;
    }

    int tool(int holder, int edge, int size, int family) {
        if (!in(holder, 20, 300) || noEdge(edge) || !in(size, 1, 3) || !in(family, 0, 9)) return -2;
        if (toolOfEdge(edge) >= 0) return -3;
        if (tools.size() == 10) return -4;
        Tool t = new Tool();
        t.holder = holder;
        t.edge = edge;
        t.size = size;
        t.family = family;
        tools.add(t);
        return tools.size() - 1;
    }

    int nominal(Tool t) {
        return t.holder + edges.get(t.edge).length;
    }

    int toolTold(int tool, int what) {
        if (noTool(tool) || !in(what, 0, 7)) return -2;
        Tool t = tools.get(tool);
        return new int[] {t.holder, t.edge, t.size, t.family, nominal(t), t.measured, t.machine, t.place}[what];
    }

    int setter(int o, int d) {
        if (!in(o, -50, 50) || !in(d, -20, 20)) return -2;
        off = o;
        drift = d;
        return 1;
    }

    int reads(int n) {
        return BigInteger.valueOf(n - off).multiply(BigInteger.valueOf(1000 + drift)).divide(BigInteger.valueOf(1000)).intValueExact();
    }

    int calibrate(int master) {
        if (!in(master, 100, 400)) return -2;
        return offset = master - reads(master);
    }

    int measure(int tool) {
        if (noTool(tool)) return -2;
        return tools.get(tool).measured = reads(nominal(tools.get(tool))) + offset;
    }

    int feed(int n, long bytes) {
        if (!in(n, 1, 8)) return -2;
        if (tape.length() + n > 160) return -4;
        for (int i = 0; i < n; i++) {
            tape.append((char) (bytes & 255));
            bytes >>>= 8;
        }
        return tape.length();
    }

    int text() {
        if (texts.size() == 6) return -4;
        List<String> tokens = new ArrayList<>();
        List<Integer> places = new ArrayList<>();
        split(tape.toString(), tokens, places);
        places.add(tape.length());
        tape.setLength(0);
        int k = firstWrong(tokens);
        if (k >= 0) return -100 - places.get(k);
        List<List<String>> parts = new ArrayList<>();
        for (int i = 0; i < tokens.size();) {
            int end = i + tokens.subList(i, tokens.size()).indexOf(";");
            parts.add(new ArrayList<>(tokens.subList(i + 1, end)));
            i = end + 1;
        }
        texts.add(parts);
        return texts.size() - 1;
    }

    static void split(String s, List<String> tokens, List<Integer> places) {
        java.util.regex.Matcher m = java.util.regex.Pattern.compile("[a-z]+|[0-9]+|[^ \n]").matcher(s);
        while (m.find()) {
            tokens.add(m.group());
            places.add(m.start());
        }
    }

    static final List<String> NAMES = Arrays.asList("cuts", "speed", "stuff", "life", "reading", "nominal");
    static final List<String> HEADS = Arrays.asList("worn", "broken", "check");

    static boolean isOperand(String t) {
        return NAMES.contains(t) || t.matches("[0-9]{1,4}");
    }

    /** The number of the first token that can't stand there, of the end as well, or -1: by a machine with a stack. */
    static int firstWrong(List<String> tokens) {
        int k = 0;
        for (String head : HEADS) {
            if (k >= tokens.size() || !tokens.get(k).equals(head)) return k;
            k++;
            StringBuilder open = new StringBuilder();
            boolean compared = false, operand = true, not = true, ended = false;
            List<Boolean> saved = new ArrayList<>();
            while (!ended) {
                if (k >= tokens.size()) return k;
                String t = tokens.get(k);
                if (operand) {
                    boolean opens = t.equals("(") || t.equals("-") || t.equals("not") && not;
                    if (opens) {
                        if (open.length() == 5) return k;
                        open.append(t.charAt(0));
                        if (t.equals("(")) {
                            saved.add(compared);
                            compared = false;
                        }
                        not = !t.equals("-");
                    } else if (isOperand(t)) {
                        closeAll(open, '-');
                        operand = false;
                    } else {
                        return k;
                    }
                } else if ("*+-".contains(t)) {
                    operand = true;
                    not = false;
                } else if ("<=".contains(t) && !compared) {
                    compared = true;
                    operand = true;
                    not = false;
                } else if (t.equals("and") || t.equals("or")) {
                    closeAll(open, 'n');
                    compared = false;
                    operand = true;
                    not = true;
                } else if (t.equals(")")) {
                    closeAll(open, 'n');
                    if (open.length() == 0) return k;
                    open.setLength(open.length() - 1);
                    compared = saved.remove(saved.size() - 1);
                    closeAll(open, '-');
                } else if (t.equals(";")) {
                    closeAll(open, 'n');
                    if (open.length() != 0) return k;
                    ended = true;
                } else {
                    return k;
                }
                k++;
            }
        }
        return k < tokens.size() ? k : -1;
    }

    static void closeAll(StringBuilder open, char c) {
        while (open.length() > 0 && open.charAt(open.length() - 1) == c) {
            open.setLength(open.length() - 1);
        }
    }

    int force(int text) {
        if (!in(text, 0, texts.size() - 1)) return -2;
        int before = rule;
        rule = text;
        return before;
    }

    long says(int tool, int part) {
        if (noTool(tool) || !in(part, 0, 2)) return -4611686018427387904L;
        return value(texts.get(rule).get(part), tools.get(tool));
    }

    /** The last place outside ( ) where one of some signs joins two, or -1. */
    static int joint(List<String> t, String... signs) {
        int depth = 0;
        for (int i = t.size() - 1; i > 0; i--) {
            if (t.get(i).equals(")")) depth++;
            if (t.get(i).equals("(")) depth--;
            boolean behindOne = isOperand(t.get(i - 1)) || t.get(i - 1).equals(")");
            if (depth == 0 && behindOne && Arrays.asList(signs).contains(t.get(i))) return i;
        }
        return -1;
    }

    int value(List<String> t, Tool tool) {
        String[][] levels = {{"or"}, {"and"}};
        for (String[] level : levels) {
            int i = joint(t, level);
            if (i >= 0) {
                boolean a = value(t.subList(0, i), tool) != 0;
                boolean b = value(t.subList(i + 1, t.size()), tool) != 0;
                return (level[0].equals("or") ? a | b : a & b) ? 1 : 0;
            }
        }
        if (t.get(0).equals("not")) return value(t.subList(1, t.size()), tool) == 0 ? 1 : 0;
        for (String[] level : new String[][] {{"<", "="}, {"+", "-"}, {"*"}}) {
            int i = joint(t, level);
            if (i >= 0) {
                int a = value(t.subList(0, i), tool);
                int b = value(t.subList(i + 1, t.size()), tool);
                switch (t.get(i)) {
                    case "<": return a < b ? 1 : 0;
                    case "=": return a == b ? 1 : 0;
                    case "+": return a + b;
                    case "-": return a - b;
                    default: return a * b;
                }
            }
        }
        if (t.get(0).equals("-")) return -value(t.subList(1, t.size()), tool);
        if (t.get(0).equals("(")) return value(t.subList(1, t.size() - 1), tool);
        Edge e = edges.get(tool.edge);
        int[] values = {e.cuts, e.speed, e.stuff, e.life, tool.measured, nominal(tool)};
        return NAMES.contains(t.get(0)) ? values[NAMES.indexOf(t.get(0))] : Integer.parseInt(t.get(0));
    }

    int machine(int speed, int places) {
        if (!in(speed, 1, 20) || !in(places, 4, 16)) return -2;
        if (machines.size() == 3) return -4;
        Machine m = new Machine();
        m.speed = speed;
        m.places = places;
        machines.add(m);
        return machines.size() - 1;
    }

    int held(int machine, int place) {
        for (int t = 0; t < tools.size(); t++) {
            Tool x = tools.get(t);
            if (x.machine == machine && in(place, x.place, x.place + x.size - 1)) return t;
        }
        return -1;
    }

    boolean fits(int machine, int tool, int place) {
        for (int p = place; p < place + tools.get(tool).size; p++) {
            if (p >= machines.get(machine).places || held(machine, p) >= 0) return false;
        }
        return true;
    }

    int put(int machine, int tool, int place) {
        if (noMachine(machine) || noTool(tool) || !in(place, 0, machines.get(machine).places - 1)) return -2;
        Tool t = tools.get(tool);
        if (t.machine >= 0 || !fits(machine, tool, place) || says(tool, 2) == 0) return -3;
        t.machine = machine;
        t.place = place;
        return 1;
    }

    int take(int tool) {
        if (noTool(tool)) return -2;
        int m = tools.get(tool).machine;
        if (m < 0) return -3;
        tools.get(tool).machine = -1;
        tools.get(tool).place = -1;
        return m;
    }

    int at(int machine, int place) {
        if (noMachine(machine) || !in(place, 0, machines.get(machine).places - 1)) return -2;
        return held(machine, place);
    }

    int room(int machine, int tool) {
        if (noMachine(machine) || noTool(tool)) return -2;
        for (int p = 0; p < machines.get(machine).places; p++) {
            if (fits(machine, tool, p)) return p;
        }
        return -1;
    }

    int cut(int machine, int family, int cuts, int stuff) {
        if (noMachine(machine) || !in(family, 0, 9) || !in(cuts, 1, 99) || !in(stuff, 1, 20)) return -2;
        int taker = -1;
        for (int i = tools.size() - 1; i >= 0; i--) {
            Tool t = tools.get(i);
            Edge e = edges.get(t.edge);
            if (t.machine != machine || t.family != family || e.state != 0) continue;
            if (taker >= 0) {
                Edge b = edges.get(tools.get(taker).edge);
                if (e.above.multiply(b.below).compareTo(b.above.multiply(e.below)) < 0) continue;
            }
            taker = i;
        }
        if (taker < 0) return -3;
        Edge e = edges.get(tools.get(taker).edge);
        e.cuts += cuts;
        e.speed = machines.get(machine).speed;
        e.stuff = stuff;
        e.add((long) cuts * wearOf(e.kind, e.speed, stuff), 100L * e.life);
        if (says(taker, 1) != 0) {
            e.state = 2;
        } else if (e.above.compareTo(e.below) >= 0 || says(taker, 0) != 0) {
            e.state = 1;
        }
        if (e.trail.isEmpty() || e.trail.get(e.trail.size() - 1) != machine) e.trail.add(machine);
        return taker;
    }

    int job(int wants) {
        if (!in(wants, 1, 1023) || Integer.bitCount(wants) > 5) return -2;
        if (jobs.size() == 6) return -4;
        jobs.add(wants);
        return jobs.size() - 1;
    }

    int changes(long order, int r) {
        if (!in(r, 1, 9)) return -2;
        List<Integer> row = new ArrayList<>();
        String digits = order < 0 ? "x" : new StringBuilder(Long.toString(order, 6)).reverse().toString();
        for (int i = 0; i < Math.max(digits.length(), jobs.size()); i++) {
            int d = i < digits.length() ? Character.digit(digits.charAt(i), 6) : 0;
            if (i >= jobs.size() && d == 0) continue;
            if (d < 0 || d >= jobs.size() || row.contains(d)) return -2;
            row.add(d);
        }
        return changes(row, r);
    }

    int changes(List<Integer> row, int r) {
        List<Integer> there = new ArrayList<>();
        int changes = 0;
        for (int i = 0; i < row.size(); i++) {
            int wants = jobs.get(row.get(i));
            for (int f = 0; f < 10; f++) {
                if ((wants >> f & 1) == 0 || there.contains(f)) continue;
                if (there.size() == r) {
                    int out = -1;
                    int late = -1;
                    for (int g = 0; g < 10; g++) {
                        if (!there.contains(g) || (wants >> g & 1) != 0) continue;
                        int next = 99;
                        for (int j = row.size() - 1; j > i; j--) {
                            if ((jobs.get(row.get(j)) >> g & 1) != 0) next = j;
                        }
                        if (next >= late) {
                            late = next;
                            out = g;
                        }
                    }
                    if (out < 0) return -1;
                    there.remove(Integer.valueOf(out));
                }
                there.add(f);
                changes++;
            }
        }
        return changes;
    }

    int order(int r, int i) {
        if (!in(r, 1, 9)) return -2;
        List<Integer> best = new ArrayList<>();
        int[] fewest = {-1};
        tryAll(new ArrayList<>(), r, best, fewest);
        if (i == -1 || fewest[0] < 0) return fewest[0];
        return in(i, 0, best.size() - 1) ? best.get(i) : -1;
    }

    void tryAll(List<Integer> row, int r, List<Integer> best, int[] fewest) {
        if (row.size() == jobs.size()) {
            int c = changes(row, r);
            if (c >= 0 && (fewest[0] < 0 || c < fewest[0])) {
                fewest[0] = c;
                best.clear();
                best.addAll(row);
            }
        }
        for (int j = 0; j < jobs.size(); j++) {
            if (row.contains(j)) continue;
            row.add(j);
            tryAll(row, r, best, fewest);
            row.remove(row.size() - 1);
        }
    }

    int count(int what) {
        if (!in(what, 0, 8)) return -2;
        int bad = (int) edges.stream().filter(e -> e.state != 0).count();
        return new int[] {edges.size(), tools.size(), machines.size(), jobs.size(), texts.size(), tape.length(), rule, offset, bad}[what];
    }

    int sheet(int sheet, int sort, int n) {
        if (!in(sheet, 0, 3) || !in(sort, -1, 2)) return -2;
        if (sort == -1) {
            sheets.remove(sheet);
            return 1;
        }
        if (n > 40) return -2;
        if (n < 0) return -14;
        sheets.put(sheet, sort == 0 ? new byte[n] : sort == 1 ? new short[n] : new int[n]);
        return 1;
    }

    int cell(int sheet, int i, int v) {
        if (!in(sheet, 0, 3)) return -2;
        Object s = sheets.get(sheet);
        if (s == null) return -11;
        if (!in(i, 0, java.lang.reflect.Array.getLength(s) - 1)) return -12;
        if (s instanceof byte[]) ((byte[]) s)[i] = (byte) v;
        if (s instanceof short[]) ((short[]) s)[i] = (short) v;
        if (s instanceof int[]) ((int[]) s)[i] = v;
        return 1;
    }

    int cuts(int machine, int sheet, int sort, int from, int n) {
        if (noMachine(machine) || !in(sheet, 0, 3) || !in(sort, 0, 2) || !in(n, 0, 13)) return -2;
        Object s = sheets.get(sheet);
        if (s == null) return -11;
        if (s.getClass() != new Class<?>[] {byte[].class, short[].class, int[].class}[sort]) return -13;
        int done = 0;
        for (long k = 0; k < n; k++) {
            int[] v = new int[3];
            for (int j = 0; j < 3; j++) {
                long i = from + 3 * k + j;
                if (i < 0 || i >= java.lang.reflect.Array.getLength(s)) return -12;
                v[j] = java.lang.reflect.Array.getInt(s, (int) i);
            }
            if (cut(machine, v[0], v[1], v[2]) >= 0) done++;
        }
        return done;
    }

    int taken(int edge, int k) {
        if (!in(k, 0, 5)) return -2;
        if (noEdge(edge)) return -11;
        return under(edges.get(edge).kind, k) ? edges.get(edge).length : -13;
    }
}
