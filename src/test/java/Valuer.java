/** The worth of a habit without blanks and faults: each part is cut at its last sign that stands outside brackets. */
final class Valuer {
    private final String last;
    private final String ahead;

    private Valuer(String last, String ahead) {
        this.last = last;
        this.ahead = ahead;
    }

    static long worth(String habit, String last, String ahead) {
        Valuer valuer = new Valuer(last, ahead);
        for (String clause : habit.split(";")) {
            String body = clause.substring(2);
            int mark = body.indexOf('?');
            if (mark < 0 || valuer.holds(body.substring(0, mark))) {
                return valuer.value(body.substring(mark + 1));
            }
        }
        return 0;
    }

    private static int lastOutside(String text, String signs) {
        int depth = 0;
        for (int i = text.length() - 1; i >= 0; i--) {
            char c = text.charAt(i);
            depth += c == ')' || c == ']' ? 1 : c == '(' || c == '[' ? -1 : 0;
            if (depth == 0 && signs.indexOf(c) >= 0) {
                return i;
            }
        }
        return -1;
    }

    private boolean holds(String text) {
        int or = lastOutside(text, "|");
        if (or >= 0) {
            return holds(text.substring(0, or)) || holds(text.substring(or + 1));
        }
        int and = lastOutside(text, "&");
        if (and >= 0) {
            return holds(text.substring(0, and)) && holds(text.substring(and + 1));
        }
        if (text.charAt(0) == '!') {
            return !holds(text.substring(1));
        }
        if (text.charAt(0) == '(') {
            return holds(text.substring(1, text.length() - 1));
        }
        int relation = lastOutside(text, "=<>");
        int compared = Long.compare(value(text.substring(0, relation)), value(text.substring(relation + 1)));
        return compared == (text.charAt(relation) == '=' ? 0 : text.charAt(relation) == '<' ? -1 : 1);
    }

    private long value(String text) {
        int at = lastOutside(text, "+-");
        if (at < 0) {
            at = lastOutside(text, "*/");
        }
        if (at >= 0) {
            long a = value(text.substring(0, at));
            long b = value(text.substring(at + 1));
            long c;
            switch (text.charAt(at)) {
                case '+': c = a + b; break;
                case '-': c = a - b; break;
                case '*': c = a * b; break;
                default: c = b == 0 ? 0 : (Math.abs(a) / Math.abs(b)) * Long.signum(a) * Long.signum(b); break;
            }
            return Math.abs(c) > 1000000 ? 1000000L * Long.signum(c) : c;
        }
        switch (text.charAt(0)) {
            case '[': return value(text.substring(1, text.length() - 1));
            case 'n': return last.length();
            case 'v': return last.replaceAll("[^aeiou]", "").length();
            case 'f': return last.charAt(0) - 96;
            case 'l': return last.charAt(last.length() - 1) - 96;
            case 'w': return ahead.length();
            default: return Long.parseLong(text);
        }
    }
}
