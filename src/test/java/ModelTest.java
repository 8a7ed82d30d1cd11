/** All promises: long rows of calls, chosen by a fixed row of numbers, answered as the Model answers them. */
public final class ModelTest {
    private static final int RUNS = 2500, TEXTS = 60000;
    /** An object is used for at most CALLS; the last TOLD of them, or fewer, ask what has come of the others. */
    private static final int CALLS = 512, TOLD = 200;
    private static final Due D = new Due("ModelTest");
    private static final int[] FAR = {Integer.MIN_VALUE, Integer.MIN_VALUE + 1, -1000, -1, 0, 1, 1000, Integer.MAX_VALUE - 1, Integer.MAX_VALUE};

    private final int run;
    private final boolean wild;
    private long seed;
    private int calls;
    private final ToolCrib x = new ToolCrib();
    private final Model m = new Model();

    private ModelTest(int run) {
        this.run = run;
        this.wild = run % 5 == 4;
        this.seed = run * 7919L + 17;
    }

    public static void main(String[] args) {
        for (int run = 0; run < RUNS; run++) {
            ModelTest test = new ModelTest(run);
            while (test.calls < CALLS - TOLD) {
                test.step(test.calls);
            }
            while (test.calls < CALLS) {
                test.tell(test.calls);
            }
        }
        for (int i = 0; i < TEXTS; i++) {
            ModelTest test = new ModelTest(i * 5 + 1000);
            test.oneText();
        }
        D.end();
    }

    private int below(int n) {
        seed = seed * 6364136223846793005L + 1442695040888963407L;
        return (int) ((seed >>> 33) % n);
    }

    /** Mostly from least to most, now and then a little or far outside. */
    private int some(int least, int most) {
        int pick = below(wild ? 12 : 60);
        if (pick == 0) return FAR[below(FAR.length)];
        if (pick == 1) return least - 1;
        if (pick == 2) return most + 1;
        return least + below(most - least + 1);
    }

    private void is(int i, String call, long got, long want) {
        calls++;
        D.is("run " + run + ", call " + i + ": " + call, got, want);
    }

    private void step(int i) {
        int kind = below(i < 60 ? 60 : 100);
        if (kind < 12) {
            edgesAndTools(i, below(5));
        } else if (kind < 30) {
            measuring(i, below(6));
        } else if (kind < 42) {
            magazines(i, below(6));
        } else if (kind < 48) {
            jobs(i, below(6));
        } else if (kind < 60) {
            sheets(i, below(6));
        } else if (kind < 85) {
            cutting(i);
        } else if (kind < 92) {
            telling(i, below(9));
        } else {
            renewing(i, below(4));
        }
    }

    private void edgesAndTools(int i, int which) {
        if (which < 3) {
            int k = some(0, 5), l = some(10, 200), c = some(1, 8), f = below(3) == 0 ? some(1, 20) : some(1, 999);
            int t = below(4) == 0 ? some(1, 200) : some(1, Math.max(1, Math.min(200, l)));
            is(i, "edge", x.edge(k, l, t, c, f), m.edge(k, l, t, c, f));
        } else if (which == 3) {
            int h = some(20, 300), e = some(0, Math.max(0, m.edges.size() - 1)), s = some(1, 3), f = below(3) == 0 ? some(0, 9) : some(0, 2);
            is(i, "tool", x.tool(h, e, s, f), m.tool(h, e, s, f));
        } else {
            int s = some(1, 20), p = some(4, 16);
            is(i, "machine", x.machine(s, p), m.machine(s, p));
        }
    }

    private void measuring(int i, int which) {
        if (which == 0) {
            int o = below(3) == 0 ? some(-50, 50) : 0, d = below(3) == 0 ? some(-20, 20) : 0;
            is(i, "setter", x.setter(o, d), m.setter(o, d));
        } else if (which == 1) {
            int l = some(100, 400);
            is(i, "calibrate", x.calibrate(l), m.calibrate(l));
        } else if (which == 2) {
            int n = some(1, 8);
            long b = seed;
            if (below(8) == 0) is(i, "feed", x.feed(n, b), m.feed(n, b));
            int t = some(0, 3);
            if (below(3) == 0) is(i, "force", x.force(t), m.force(t));
        } else if (which == 3 && below(5) == 0) {
            newText(i);
        } else {
            int t = some(0, 9);
            is(i, "measure", x.measure(t), m.measure(t));
        }
    }

    private void newText(int i) {
        String text = Texts.text(this::below);
        if (below(3) == 0) {
            int p = below(text.length());
            text = text.substring(0, p) + Texts.scrap(this::below) + text.substring(Math.min(text.length(), p + below(3)));
        }
        for (int from = 0; from < text.length();) {
            int n = Math.min(1 + below(8), text.length() - from);
            long packed = seed << 7;
            for (int k = n - 1; k >= 0; k--) {
                packed = packed << 8 | text.charAt(from + k);
            }
            is(i, "feed", x.feed(n, packed), m.feed(n, packed));
            from += n;
        }
        String tape = m.tape.toString();
        is(i, "text of " + tape, x.text(), m.text());
        is(i, "count(4)", x.count(4), m.count(4));
    }

    private void oneText() {
        x.edge(0, 100, 50, 1, 50);
        m.edge(0, 100, 50, 1, 50);
        x.tool(100, 0, 1, 0);
        m.tool(100, 0, 1, 0);
        newText(0);
        x.force(1);
        m.force(1);
        for (int part = 0; part < 3; part++) {
            is(part, "says", x.says(0, part), m.says(0, part));
        }
    }

    private void magazines(int i, int which) {
        int a = some(0, 2), t = some(0, 9), p = some(0, 15);
        if (which == 0) {
            is(i, "take", x.take(t), m.take(t));
        } else if (which == 1) {
            is(i, "room", x.room(a, t), m.room(a, t));
        } else if (which == 2) {
            is(i, "at", x.at(a, p), m.at(a, p));
        } else {
            is(i, "put", x.put(a, t, p), m.put(a, t, p));
        }
    }

    private void jobs(int i, int which) {
        int r = some(1, 9);
        if (which == 0) {
            int w = below(3) == 0 ? some(1, 1023) : 1 << below(10) | 1 << below(10) | 1 << below(10);
            is(i, "job", x.job(w), m.job(w));
        } else if (which < 4) {
            long order = 0;
            int[] row = {0, 1, 2, 3, 4, 5};
            for (int k = m.jobs.size() - 1; k >= 0; k--) {
                int j = below(k + 1);
                order = order * 6 + row[j];
                row[j] = row[k];
            }
            if (below(10) == 0) order += seed % 50000;
            if (below(40) == 0) order = seed;
            is(i, "changes(" + order + ", " + r + ")", x.changes(order, r), m.changes(order, r));
        } else if (below(4) == 0) {
            int k = some(-1, 6);
            is(i, "order(" + r + ", " + k + ")", x.order(r, k), m.order(r, k));
        }
    }

    private void sheets(int i, int which) {
        int s = some(0, 3);
        if (which == 0) {
            int sort = some(-1, 2), n = some(0, 40);
            is(i, "sheet", x.sheet(s, sort, n), m.sheet(s, sort, n));
        } else if (which < 5) {
            int at = below(14) * 3;
            int[] v = {below(3), below(4) == 0 ? some(1, 99) : some(1, 9), some(1, 20)};
            for (int k = 0; k < 3; k++) {
                int c = v[k] + (below(8) == 0 ? 1 << (8 + below(20)) : 0);
                is(i, "cell", x.cell(s, at + k, c), m.cell(s, at + k, c));
            }
        } else {
            int a = some(0, 2), sort = some(0, 2), from = below(3) == 0 ? some(0, 39) : 3 * below(5), n = some(0, 13);
            Object row = m.sheets.get(s);
            if (below(4) != 0) sort = row instanceof byte[] ? 0 : row instanceof short[] ? 1 : 2;
            is(i, "cuts", x.cuts(a, s, sort, from, n), m.cuts(a, s, sort, from, n));
        }
    }

    private void cutting(int i) {
        int a = some(0, 2), f = below(5) == 0 ? some(0, 9) : some(0, 2), s = some(1, 20);
        int c = below(3) == 0 ? some(1, 99) : some(1, 9);
        is(i, "cut", x.cut(a, f, c, s), m.cut(a, f, c, s));
    }

    private void renewing(int i, int which) {
        int e = some(0, 23), n = below(2) == 0 ? some(1, 50) : 1 + below(4);
        if (which < 2) {
            is(i, "turn", x.turn(e), m.turn(e));
        } else {
            is(i, "grind", x.grind(e, n), m.grind(e, n));
        }
    }

    private void telling(int i, int which) {
        int e = some(0, 23), t = some(0, 9), w = some(0, 8);
        switch (which) {
            case 0: is(i, "edgeTold", x.edgeTold(e, w), m.edgeTold(e, w)); break;
            case 1: is(i, "used", x.used(e, w & 1), m.used(e, w & 1)); break;
            case 2: is(i, "used", x.used(e, w), m.used(e, w)); break;
            case 3: int s = some(1, 20), h = some(1, 20); is(i, "wear", x.wear(e, s, h), m.wear(e, s, h)); break;
            case 4: is(i, "trail", x.trail(e, w), m.trail(e, w)); break;
            case 5: is(i, "toolTold", x.toolTold(t, w), m.toolTold(t, w)); break;
            case 6: int p = some(0, 2); is(i, "says", x.says(t, p), m.says(t, p)); break;
            case 7: int k = some(0, 5); is(i, "taken", x.taken(e, k), m.taken(e, k)); break;
            default: is(i, "count", x.count(w), m.count(w)); break;
        }
    }

    private void tell(int i) {
        int which = below(40);
        if (which == 0) {
            int r = some(1, 9), k = some(-1, 6);
            is(i, "order(" + r + ", " + k + ")", x.order(r, k), m.order(r, k));
        } else if (which < 5) {
            int a = some(0, 2), p = some(0, 15);
            is(i, "at(" + a + ", " + p + ")", x.at(a, p), m.at(a, p));
        } else {
            telling(i, below(9));
        }
    }
}
