import java.util.function.IntUnaryOperator;

/** Makes TEXTS and scraps of them from a row of numbers. */
final class Texts {
    private static final String[] SCRAPS = {
        "(", ")", ";", "+", "-", "*", "<", "=", " ", "\n", "cuts", "life", "not", "and", "or", "worn", "broken", "check",
        "1", "9999", "12345", "x", "A", "\t", "\u0000", "\u00ff", "not(", "-(", "((", "))", "--", "nominal", "words", "",
    };
    private static final String[] NAMES = {"cuts", "speed", "stuff", "life", "reading", "nominal"};

    private final IntUnaryOperator below;
    private final StringBuilder s = new StringBuilder();

    private Texts(IntUnaryOperator below) {
        this.below = below;
    }

    static String scrap(IntUnaryOperator below) {
        return SCRAPS[below.applyAsInt(SCRAPS.length)];
    }

    static String text(IntUnaryOperator below) {
        Texts t = new Texts(below);
        for (String head : new String[] {"worn", "broken", "check"}) {
            t.word(head);
            t.either(0);
            t.s.append(';');
            t.blank();
        }
        return t.s.toString();
    }

    private boolean rarely(int n) {
        return below.applyAsInt(n) == 0;
    }

    private void blank() {
        if (rarely(6)) s.append(rarely(3) ? "\n" : " ");
    }

    private void word(String w) {
        if (s.length() > 0 && Character.isLetter(s.charAt(s.length() - 1))) s.append(' ');
        s.append(w);
        blank();
    }

    private void either(int depth) {
        both(depth);
        for (int i = 0; i < 3 && rarely(4 + depth); i++) {
            word("or");
            both(depth);
        }
    }

    private void both(int depth) {
        not(depth);
        for (int i = 0; i < 3 && rarely(4 + depth); i++) {
            word("and");
            not(depth);
        }
    }

    private void not(int depth) {
        if (depth < 7 && rarely(4)) {
            word("not");
            not(depth + 1);
            return;
        }
        sum(depth);
        if (rarely(2)) {
            word(rarely(2) ? "<" : "=");
            sum(depth);
        }
    }

    private void sum(int depth) {
        term(depth);
        for (int i = 0; i < 3 && rarely(4); i++) {
            word(rarely(2) ? "+" : "-");
            term(depth);
        }
    }

    private void term(int depth) {
        one(depth);
        for (int i = 0; i < 3 && rarely(4); i++) {
            word("*");
            one(depth);
        }
    }

    private void one(int depth) {
        if (depth < 7 && rarely(5)) {
            word("-");
            one(depth + 1);
        } else if (depth < 7 && rarely(4)) {
            word("(");
            either(depth + 1);
            word(")");
        } else if (rarely(2)) {
            word(NAMES[below.applyAsInt(6)]);
        } else {
            if (s.length() > 0 && Character.isDigit(s.charAt(s.length() - 1))) s.append(' ');
            s.append(rarely(3) ? below.applyAsInt(10000) : below.applyAsInt(4));
            blank();
        }
    }
}
