import java.nio.charset.StandardCharsets;

/** Compares answers with those that are due, and helps to make what most tests start from. */
final class Due {
    private final String test;
    private int seen;
    private int wrong;

    Due(String test) {
        this.test = test;
    }

    void is(String call, long got, long want) {
        seen++;
        if (got != want) {
            wrong++;
            System.out.println(test + ": " + call + " answered " + got + ", due is " + want);
        }
    }

    /** Ends the program: exit code 1 if an answer was wrong. */
    void end() {
        System.out.println(test + ": " + seen + " answers, " + wrong + " not as due");
        if (wrong != 0) {
            System.exit(1);
        }
    }

    /** Feeds a text byte by byte, eight at a time; the last answer of feed. */
    static int feed(ToolCrib x, String text) {
        byte[] bytes = text.getBytes(StandardCharsets.ISO_8859_1);
        int answer = 0;
        for (int from = 0; from < bytes.length; from += 8) {
            int n = Math.min(8, bytes.length - from);
            long packed = 0;
            for (int i = 0; i < n; i++) {
                packed |= (bytes[from + i] & 255L) << (8 * i);
            }
            answer = x.feed(n, packed);
        }
        return answer;
    }

    static int text(ToolCrib x, String text) {
        feed(x, text);
        return x.text();
    }

    /** A crib whose THE RULE is a text of these three parts. */
    static ToolCrib ruled(String worn, String broken, String check) {
        ToolCrib x = new ToolCrib();
        int number = text(x, "worn " + worn + ";broken " + broken + ";check " + check + ";");
        if (number != 1 || x.force(1) != 0) {
            throw new IllegalStateException("the rule of a test has a fault: " + number);
        }
        return x;
    }
}
