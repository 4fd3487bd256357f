import java.util.NoSuchElementException;

/** Runs of many calls with drawn arguments, each answer compared with that of the slow Model. */
public final class ReferenceTest {
    private static final String[] VOCABULARY = {"a", "b", "go", "my", "lord", "lard", "in", "aeiouaei", "zz", "lor"};
    private static final int[] ODD = {-1, -2, 127, 128, 1 << 30, Integer.MIN_VALUE, Integer.MAX_VALUE, 255, 256};
    private final Check check;
    private long seed;

    private ReferenceTest(Check check) {
        this.check = check;
    }

    private int draw(int bound) {
        seed = seed * 6364136223846793005L + 1442695040888963407L;
        return (int) ((seed >>> 33) % bound);
    }

    private boolean chance(int percent) {
        return draw(100) < percent;
    }

    private int pick(int from, int bound) {
        return chance(4) ? ODD[draw(ODD.length)] : from + draw(bound - from);
    }

    // ---- texts

    private String blanks(int least) {
        return " ".repeat(chance(80) ? least : least + draw(3));
    }

    private String word(int words) {
        return VOCABULARY[draw(Math.min(words, VOCABULARY.length))];
    }

    private String roll(int items, int words) {
        StringBuilder text = new StringBuilder();
        for (int i = 0; i < items; i++) {
            text.append(i == 0 ? "" : ";").append(blanks(0));
            if (chance(i == 0 ? 50 : 8)) {
                text.append("-");
            } else {
                text.append(word(words)).append(chance(40) ? blanks(1) + word(words) : "");
            }
            text.append(blanks(0)).append(">").append(blanks(0)).append(word(words));
            for (int w = draw(4); w > 0; w--) {
                text.append(blanks(1)).append(word(words));
            }
            text.append(blanks(0));
        }
        return text.toString();
    }

    private String plot() {
        StringBuilder text = new StringBuilder();
        int letters = 1 + draw(7);
        for (int scenes = 1 + draw(6); scenes > 0; scenes--) {
            int used = 0;
            for (int i = 1 + draw(4); i > 0; i--) {
                int part = draw(letters);
                if ((used >> part & 1) == 0) {
                    text.append(blanks(0)).append((char) ('a' + part));
                    used |= 1 << part;
                }
            }
            text.append(blanks(0)).append(scenes == 1 ? "" : "/");
        }
        return text.toString();
    }

    private String sum(int depth) {
        StringBuilder text = new StringBuilder();
        for (int i = draw(3); i >= 0; i--) {
            text.append(blanks(0));
            if (depth < 6 && chance(12)) {
                text.append("[").append(sum(depth + 1)).append("]");
            } else if (chance(40)) {
                text.append(draw(chance(50) ? 10000 : 12));
            } else {
                text.append("nvflw".charAt(draw(5)));
            }
            text.append(blanks(0)).append(i == 0 ? "" : "+-*/".charAt(draw(4)));
        }
        return text.toString();
    }

    private String condition(int depth) {
        StringBuilder text = new StringBuilder();
        for (int i = draw(3); i >= 0; i--) {
            text.append(blanks(0));
            if (depth < 6 && chance(15)) {
                text.append("(").append(condition(depth + 1)).append(")");
            } else if (depth < 6 && chance(15)) {
                text.append("!").append(chance(50) || depth == 5 ? sum(depth + 1) + "=" + sum(depth + 1)
                        : "(" + condition(depth + 2) + ")");
            } else {
                text.append(sum(depth)).append("=<>".charAt(draw(3))).append(sum(depth));
            }
            text.append(i == 0 ? "" : "|&".charAt(draw(2)));
        }
        return text.toString();
    }

    private String habit() {
        StringBuilder text = new StringBuilder();
        for (int i = draw(4); i >= 0; i--) {
            text.append(blanks(0)).append("y").append(blanks(0)).append(":");
            text.append(chance(60) ? condition(0) + "?" : "").append(sum(0)).append(i == 0 ? "" : ";");
        }
        return text.toString();
    }

    private String spoiled(String text) {
        String signs = " abjkyz09;>/-:?![]()&|=<>+*nvflw\u0001\u00ff";
        StringBuilder other = new StringBuilder(text);
        for (int i = draw(2); i >= 0; i--) {
            int at = draw(other.length() + 1);
            int how = draw(4);
            if (how == 0) {
                other.insert(at, signs.charAt(draw(signs.length())));
            } else if (how == 1) {
                other.setLength(at);
            } else if (at < other.length() && how == 2) {
                other.deleteCharAt(at);
            } else if (at < other.length()) {
                other.setCharAt(at, signs.charAt(draw(signs.length())));
            }
        }
        return other.toString();
    }

    private String drawn(int sort, int items, int words) {
        return sort == 0 ? roll(items, words) : sort == 1 ? plot() : habit();
    }

    // ---- faults

    private void faults(int runs) {
        for (int i = 0; i < runs; i++) {
            int sort = draw(3);
            String text = drawn(sort, 1 + draw(chance(10) ? 13 : 4), 10);
            if (chance(60)) {
                text = spoiled(text);
            }
            if (text.length() <= 200) {
                check.due("fault(" + sort + ") of '" + text + "'", Check.fault(sort, text), Earley.fault(sort, text));
            }
        }
    }

    // ---- runs

    private void tellText(CueRolls x, Model m, int sort, String text) {
        check.due("end(0)", x.end(0), m.end(0));
        for (int from = 0; from < text.length(); from += 20) {
            int[] f = new int[5];
            for (int i = 0; i < 5; i++) {
                f[i] = Check.four(text, from + 4 * i);
            }
            check.due("feed of '" + text + "'", x.feed(f[0], f[1], f[2], f[3], f[4]),
                    m.feed(f[0], f[1], f[2], f[3], f[4]));
        }
        check.due("text(" + sort + ") of '" + text + "'", x.text(sort), m.text(sort));
    }

    private int speech(Model m) {
        return pick(0, 10) == 9 ? pick(0, 128) : 16 * pick(0, m.rolls.size() + 1) + pick(0, 4);
    }

    private int some(Model m) {
        int all = (1 << m.rolls.size()) - 1;
        return chance(40) ? all : pick(0, 2 << m.rolls.size());
    }

    private void rolls(CueRolls x, Model m) {
        int s = speech(m);
        int t = speech(m);
        int some = some(m);
        int what = pick(-1, 4);
        switch (draw(12)) {
            case 0 -> speechOf(x, m, s, what);
            case 1 -> check.due("many(" + what + ")", x.many(what), m.many(what));
            case 2 -> check.due("ends(" + s + ", " + t + ")", x.ends(s, t), m.ends(s, t));
            case 3 -> check.due("far(" + s + ", " + t + ")", x.far(s, t), m.far(s, t));
            case 4 -> check.due("limit", x.limit(what), m.limit(what));
            case 5 -> check.due("kind(" + s + ", " + some + ")", x.kind(s, some), m.kind(s, some));
            case 6 -> {
                int kind = pick(-1, 7);
                check.due("kinds(" + some + ", " + kind + ")", x.kinds(some, kind), m.kinds(some, kind));
            }
            case 7 -> check.due("nearest(" + s + ", " + some + ")", x.nearest(s, some), m.nearest(s, some));
            case 8 -> check.due("length(" + some + ")", x.length(some), m.length(some));
            case 9 -> {
                int roll = pick(-1, 9);
                check.due("one(" + roll + ")", x.one(roll), m.one(roll));
                check.due("settles(" + roll + ", " + some + ")", x.settles(roll, some), m.settles(roll, some));
            }
            case 10 -> check.due("next(" + some + ")", x.next(some), m.next(some));
            default -> {
                check.due("inside(" + s + ", " + t + ")", x.inside(s, t), m.inside(s, t));
                check.due("tempted(" + some + ")", x.tempted(some), m.tempted(some));
            }
        }
    }

    private void speechOf(CueRolls x, Model m, int s, int what) {
        long got;
        long want;
        try {
            got = x.speech(s, what);
        } catch (NoSuchElementException e) {
            got = -99;
        }
        try {
            want = m.speech(s, what);
        } catch (NoSuchElementException e) {
            want = -99;
        }
        check.due("speech(" + s + ", " + what + ")", got, want);
    }

    private void ordersOf(CueRolls x, Model m) {
        int some = some(m);
        check.due("least(" + some + ")", x.least(some), m.least(some));
        check.due("orders(" + some + ")", x.orders(some), m.orders(some));
        int place = pick(-1, 12);
        check.due("first(" + some + ", " + place + ")", x.first(some, place), m.first(some, place));
        int s = speech(m);
        int t = speech(m);
        check.due("sure(" + some + ", " + s + ", " + t + ")", x.sure(some, s, t), m.sure(some, s, t));
    }

    private void playOf(CueRolls x, Model m) {
        int some = some(m);
        int place = pick(-1, 8);
        int roll = pick(-1, 9);
        switch (draw(7)) {
            case 0, 1 -> check.due("act(" + roll + ")", x.act(roll), m.act(roll));
            case 2 -> check.due("play(" + place + ")", x.play(place), m.play(place));
            case 3 -> check.due("wrong(" + place + ")", x.wrong(place), m.wrong(place));
            case 4 -> check.due("rehearse(" + some + ", " + place + ")", x.rehearse(some, place), m.rehearse(some, place));
            case 5 -> check.due("soon(" + some + ")", x.soon(some), m.soon(some));
            default -> {
                if (chance(20)) {
                    check.due("keep()", x.keep(), m.keep());
                } else if (chance(20)) {
                    check.due("back()", x.back(), m.back());
                }
            }
        }
    }

    private void plotsOf(CueRolls x, Model m) {
        int plot = pick(-1, 5);
        int change = pick(-1, 5);
        int one = pick(-1, 8);
        int other = pick(-1, 8);
        switch (draw(6)) {
            case 0 -> check.due("boys(" + change * one + ")", x.boys(change * one), m.boys(change * one));
            case 1 -> check.due("plot(" + plot + ", " + one + ")", x.plot(plot, one), m.plot(plot, one));
            case 2 -> check.due("bars(" + plot + ", " + one + ", " + other + ", " + change + ")",
                    x.bars(plot, one, other, change), m.bars(plot, one, other, change));
            case 3 -> check.due("cast(" + plot + ", " + one + ", " + change + ")",
                    x.cast(plot, one, change), m.cast(plot, one, change));
            case 4 -> check.due("crowd(" + plot + ", " + one + ")", x.crowd(plot, one), m.crowd(plot, one));
            default -> {
                int men = pick(-1, 12);
                int boys = pick(-1, 12);
                check.due("could(" + plot + ", " + change + ", " + men + ", " + boys + ")",
                        x.could(plot, change, men, boys), m.could(plot, change, men, boys));
            }
        }
    }

    private void habitsOf(CueRolls x, Model m) {
        int roll = pick(-1, 9);
        int habit = pick(-2, 5);
        int s = speech(m);
        switch (draw(4)) {
            case 0 -> check.due("habit(" + roll + ", " + habit + ")", x.habit(roll, habit), m.habit(roll, habit));
            case 1 -> check.due("worth(" + roll + ", " + habit + ")", x.worth(roll, habit), m.worth(roll, habit));
            case 2 -> check.due("likely(" + s + ", " + roll + ")", x.likely(s, roll), m.likely(s, roll));
            default -> {
                int what = pick(-1, 8);
                check.due("count(" + what + ")", x.count(what), m.count(what));
            }
        }
    }

    private void run(int calls, int words, boolean withOrders) {
        CueRolls x = new CueRolls();
        Model m = new Model();
        for (int i = 0; i < calls; i++) {
            int what = draw(20);
            if (what < 3) {
                int sort = draw(what == 0 ? 3 : 1);
                String text = drawn(sort, 1 + draw(3), words);
                text = chance(6) ? spoiled(text) : text;
                if (text.length() <= 200) {
                    tellText(x, m, sort, text);
                }
            } else if (what < 4) {
                tapeOf(x, m);
            } else if (what < 9) {
                rolls(x, m);
            } else if (what < 11) {
                if (withOrders) {
                    ordersOf(x, m);
                }
            } else if (what < 14) {
                playOf(x, m);
            } else if (what < 17) {
                plotsOf(x, m);
            } else {
                habitsOf(x, m);
            }
        }
    }

    private void tapeOf(CueRolls x, Model m) {
        int n = pick(-1, 202);
        if (chance(50)) {
            check.due("end(" + n + ")", x.end(n), m.end(n));
        } else {
            int a = chance(50) ? 0x61006200 : 0xff000001;
            check.due("feed", x.feed(a, n, 0x20202020, 0x61626364, 0), m.feed(a, n, 0x20202020, 0x61626364, 0));
        }
        int sort = pick(-1, 4);
        check.due("fault(" + sort + ")", x.fault(sort), m.fault(sort));
    }

    /** A few rolls with many speeches each, up to what is told and beyond. */
    private void great(int number, int items, int words) {
        CueRolls x = new CueRolls();
        Model m = new Model();
        for (int i = 0; i < number; i++) {
            String text = "";
            for (int tries = 0; tries < 100 && (text.isEmpty() || text.length() > 200); tries++) {
                text = roll(items, words);
            }
            if (text.length() <= 200) {
                tellText(x, m, 0, text);
            }
        }
        for (int i = 0; i < 2; i++) {
            int some = i == 0 ? (1 << m.rolls.size()) - 1 : some(m);
            check.due("least(" + some + ")", x.least(some), m.least(some));
            check.due("orders(" + some + ")", x.orders(some), m.orders(some));
            check.due("first(" + some + ")", x.first(some, 5), m.first(some, 5));
            int s = speech(m);
            int t = speech(m);
            check.due("sure(" + some + ", " + s + ", " + t + ")", x.sure(some, s, t), m.sure(some, s, t));
            check.due("rehearse(" + some + ")", x.rehearse(some, -1), m.rehearse(some, -1));
        }
    }

    public static void main(String[] args) {
        Check check = new Check("ReferenceTest");
        ReferenceTest test = new ReferenceTest(check);
        int times = args.length > 0 ? Integer.parseInt(args[0]) : 1;
        test.seed = args.length > 1 ? Long.parseLong(args[1]) : 20261118L;
        test.faults(3000 * times);
        for (int i = 0; i < 60 * times; i++) {
            test.run(400, 2 + i % 9, i % 3 == 0);
        }
        for (int i = 0; i < 6 * times; i++) {
            test.great(2 + i % 3, 3 + i % 5, 2 + i % 4);
        }
        check.close();
    }
}
