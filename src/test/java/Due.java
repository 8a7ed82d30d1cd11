import java.util.List;
import java.util.function.Supplier;

/** Compares answers with those that are due. */
final class Due {
    /** A call on a crib. */
    interface Call {
        long on(ToolCrib x);
    }

    /** A call on a crib, with one of its numbers left open. */
    interface CallWith {
        long on(ToolCrib x, int n);
    }

    private final String test;
    private int seen;
    private int wrong;

    Due(String test) {
        this.test = test;
    }

    void is(String call, long got, long want) {
        seen++;
        if (got != want) {
            wrong++;
            System.out.println(test + ": " + call + " answered " + got + ", due is " + want);
        }
    }

    /** A refused call: it answers as is due, and the crib shows then what its twin shows, which was not asked. */
    void refused(String call, Supplier<ToolCrib> made, Call refusal, long want) {
        for (int slice = 0; slice < Shown.SLICES; slice++) {
            ToolCrib x = made.get();
            is(call, refusal.on(x), want);
            same(call, Shown.of(x, slice), Shown.of(made.get(), slice));
        }
    }

    private void same(String call, List<String> got, List<String> want) {
        seen++;
        for (int i = 0; i < Math.max(got.size(), want.size()); i++) {
            String g = i < got.size() ? got.get(i) : "nothing";
            String w = i < want.size() ? want.get(i) : "nothing";
            if (!g.equals(w)) {
                wrong++;
                System.out.println(test + ": behind " + call + " " + g + ", ahead of it " + w);
                return;
            }
        }
    }

    /** A number's two ends: what they answer, and that the numbers beside them and the farthest ones are refused. */
    void ends(String call, Supplier<ToolCrib> made, CallWith asked, long[] least, long[] most, long refusal) {
        taken(call, made, asked, least);
        taken(call, made, asked, most);
        outside(call, made, asked, (int) least[0], (int) most[0], refusal);
    }

    /** The numbers beside two ends and the farthest ones are refused. */
    void outside(String call, Supplier<ToolCrib> made, CallWith asked, int least, int most, long refusal) {
        int[] refused = {least - 1, most + 1, Integer.MIN_VALUE, Integer.MAX_VALUE};
        for (int n : refused) {
            refused(call + " with " + n, made, x -> asked.on(x, n), refusal);
        }
    }

    private void taken(String call, Supplier<ToolCrib> made, CallWith asked, long[] end) {
        is(call + " with " + end[0], asked.on(made.get(), (int) end[0]), end[1]);
    }

    /** An end of a number, and what a call with it answers. */
    static long[] at(int number, long answer) {
        return new long[] {number, answer};
    }

    /** Ends the program: exit code 1 if an answer was wrong. */
    void end() {
        System.out.println(test + ": " + seen + " answers, " + wrong + " not as due");
        if (wrong != 0) {
            System.exit(1);
        }
    }
}
