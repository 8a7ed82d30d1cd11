import java.util.ArrayList;
import java.util.List;

/**
 * What a crib shows of its state, in slices: all of it would take more calls than the 512 that are promised.
 * What is shown only by calls that change something (the setter, the tape, the sheets) is asked last in its slice.
 */
final class Shown {
    static final int SLICES = 6;
    private static final int EDGES = 24, TOOLS = 10, MACHINES = 3, SHEETS = 4;

    private final ToolCrib x;
    private final List<String> answers = new ArrayList<>();

    private Shown(ToolCrib x) {
        this.x = x;
    }

    static List<String> of(ToolCrib x, int slice) {
        Shown s = new Shown(x);
        switch (slice) {
            case 0: s.edges(); break;
            case 1: s.tools(); break;
            case 2: s.jobs(); break;
            case 3: s.texts(); break;
            case 4: s.setter(); break;
            default: s.sheets(); break;
        }
        return s.answers;
    }

    private long note(String call, long answer) {
        answers.add(call + " answered " + answer);
        return answer;
    }

    private void edges() {
        for (int what = 0; what <= 8; what++) {
            note("count(" + what + ")", x.count(what));
        }
        for (int e = 0; e < EDGES && x.edgeTold(e, 0) >= 0; e++) {
            for (int what = 0; what < 8; what++) {
                note("edgeTold(" + e + ", " + what + ")", x.edgeTold(e, what));
            }
            note("used(" + e + ", 0)", x.used(e, 0));
            note("used(" + e + ", 1)", x.used(e, 1));
            for (int i = 0; i < 8 && note("trail(" + e + ", " + i + ")", x.trail(e, i)) >= 0; i++) {
            }
        }
    }

    private void tools() {
        for (int t = 0; t < TOOLS && x.toolTold(t, 0) >= 0; t++) {
            for (int what = 0; what < 8; what++) {
                note("toolTold(" + t + ", " + what + ")", x.toolTold(t, what));
            }
            for (int part = 0; part < 3; part++) {
                note("says(" + t + ", " + part + ")", x.says(t, part));
            }
        }
        for (int m = 0; m < MACHINES; m++) {
            for (int p = 0; note("at(" + m + ", " + p + ")", x.at(m, p)) != ToolCrib.BAD; p++) {
            }
        }
    }

    private void jobs() {
        for (int r = 1; r <= 9; r++) {
            for (int i = -1; i < 6; i++) {
                note("order(" + r + ", " + i + ")", x.order(r, i));
            }
        }
    }

    private void texts() {
        Cribs.feed(x, "1+cuts;broken 2;check 3;");
        note("text()", x.text());
        note("count(4)", x.count(4));
        for (int t = 0; note("force(" + t + ")", x.force(t)) >= 0; t++) {
            for (int part = 0; part < 3; part++) {
                note("says(0, " + part + ")", x.says(0, part));
            }
        }
    }

    private void setter() {
        note("calibrate(400)", x.calibrate(400));
        note("calibrate(100)", x.calibrate(100));
        for (int t = 0; t < TOOLS; t++) {
            note("measure(" + t + ")", x.measure(t));
        }
    }

    private void sheets() {
        for (int s = 0; s < SHEETS; s++) {
            for (int sort = 0; sort < 3; sort++) {
                note("cuts(0, " + s + ", " + sort + ", 0, 2)", x.cuts(0, s, sort, 0, 2));
            }
            for (int e = 0; e < EDGES && x.edgeTold(e, 0) >= 0; e++) {
                note("edgeTold(" + e + ", 6)", x.edgeTold(e, 6));
            }
            for (int i = 0; note("cell(" + s + ", " + i + ", 0)", x.cell(s, i, 0)) == 1; i++) {
            }
        }
    }
}
