import java.util.NoSuchElementException;
import java.util.function.Supplier;

/**
 * What went by BACK is gone: an object that had other rolls, longer and more of them, answers every call as one that
 * never had them. Each sort of call has a new pair of objects, so that none is used for more than 512 calls.
 */
public final class GoneTest {
    private static final int NONE = CueRolls.NONE;
    private static final String[] LONG = {
        "->a b c;a b>c d e;b c>d;a>b;->q;b>a a b a", "a b>c;c>d;d>a b c;p q>r", "d e>p q r;zz>a b;->b;d>a", "a>a;b>a b;q>b"};
    private static final String[] SHORT = {"->c", "a b>c;c d>a b c d"};
    private final Check check;

    private interface Call {
        long of(CueRolls x, int a, int b);
    }

    private GoneTest(Check check) {
        this.check = check;
    }

    /** All that is kept between calls is made here for the rolls that go. */
    private static void use(CueRolls x) {
        int all = (1 << x.count(0)) - 1;
        for (int roll = 0; roll < x.count(0); roll++) {
            x.act(roll);
            x.act(roll);
            x.habit(roll, 0);
            x.one(roll);
            x.worth(roll, 0);
        }
        for (int some = 1; some <= all; some++) {
            x.sure(some, 0, 1);
            x.length(some);
            x.rehearse(some, 0);
        }
        x.wrong(NONE);
        x.tempted(all);
    }

    private static void tellAll(CueRolls x, String... texts) {
        for (String text : texts) {
            Check.tell(x, 0, text);
        }
    }

    private static CueRolls anew(int kept) {
        CueRolls x = new CueRolls();
        Check.tell(x, 2, "y:n*3+w");
        for (int roll = 0; roll < kept; roll++) {
            Check.tell(x, 0, LONG[roll]);
            x.act(roll);
            x.habit(roll, 0);
        }
        return x;
    }

    private static CueRolls back(int kept) {
        CueRolls x = anew(kept);
        x.keep();
        for (int roll = kept; roll < LONG.length; roll++) {
            Check.tell(x, 0, LONG[roll]);
        }
        use(x);
        x.back();
        return x;
    }

    private static CueRolls shorter(CueRolls x) {
        tellAll(x, SHORT);
        return x;
    }

    private static long speech(CueRolls x, int speech, int what) {
        try {
            return x.speech(speech, what);
        } catch (NoSuchElementException e) {
            return NONE;
        }
    }

    private void alike(String call, Supplier<CueRolls> one, Supplier<CueRolls> other, int first, int second, Call on) {
        CueRolls x = one.get();
        CueRolls y = other.get();
        for (int a = -1; a <= first; a++) {
            for (int b = -1; b <= second; b++) {
                check.due(call + " of " + a + ", " + b, on.of(x, a, b), on.of(y, a, b));
            }
        }
    }

    private void all(Supplier<CueRolls> x, Supplier<CueRolls> y) {
        alike("6: speech", x, y, 80, 2, (o, a, b) -> speech(o, a, b));
        alike("7: many", x, y, 9, -1, (o, a, b) -> o.many(a));
        for (int first = 0; first < 80; first += 16) {
            int from = first;
            for (int second = 0; second < 80; second += 16) {
                int to = second;
                String pair = ", from " + from + ", " + to;
                alike("8: ends" + pair, x, y, 6, 6, (o, a, b) -> o.ends(from + a, to + b));
                alike("9: far" + pair, x, y, 6, 6, (o, a, b) -> o.far(from + a, to + b));
                alike("27: inside" + pair, x, y, 6, 6, (o, a, b) -> o.inside(from + a, to + b));
                alike("17: sure" + pair, x, y, 6, 33, (o, a, b) -> o.sure(b, from + a, to));
            }
            alike("11: kind, from " + from, x, y, 6, 33, (o, a, b) -> o.kind(from + a, b));
            alike("13: nearest, from " + from, x, y, 6, 33, (o, a, b) -> o.nearest(from + a, b));
            alike("37: likely, from " + from, x, y, 6, 8, (o, a, b) -> o.likely(from + a, b));
        }
        alike("12: kinds", x, y, 33, 6, (o, a, b) -> o.kinds(a, b));
        alike("14: least", x, y, 33, -1, (o, a, b) -> o.least(a));
        alike("15: orders", x, y, 33, -1, (o, a, b) -> o.orders(a));
        alike("16: first", x, y, 33, 8, (o, a, b) -> o.first(a, b));
        alike("18: length", x, y, 33, -1, (o, a, b) -> o.length(a));
        alike("19: one", x, y, 9, -1, (o, a, b) -> o.one(a));
        alike("20: settles", x, y, 8, 33, (o, a, b) -> o.settles(a, b));
        alike("21: next", x, y, 33, -1, (o, a, b) -> o.next(a));
        alike("23: play", x, y, 20, -1, (o, a, b) -> o.play(a));
        alike("24: wrong", x, y, 20, -1, (o, a, b) -> o.wrong(a));
        alike("22: act", x, y, 5, 8, (o, a, b) -> o.act(a));
        alike("25: rehearse", x, y, 33, 8, (o, a, b) -> o.rehearse(a, b));
        alike("26: soon", x, y, 33, -1, (o, a, b) -> o.act(a & 3) * 100 + o.soon(a));
        alike("28: tempted", x, y, 33, -1, (o, a, b) -> o.tempted(a));
        alike("35: habit", x, y, 5, 2, (o, a, b) -> o.habit(a, b) ? 1 : 0);
        alike("36: worth", x, y, 8, 2, (o, a, b) -> o.worth(a, b));
        alike("40: count", x, y, 8, -1, (o, a, b) -> o.count(a));
    }

    /** What is worked out for rolls is worked out anew when one more comes. */
    private void oneMore() {
        CueRolls x = Check.withRolls("->a", "a>b", "b>c");
        check.due("19: joined", x.one(0), 7);
        check.due("14: least", x.least(7), 0);
        check.due("17: sure", x.sure(7, 0, 16), 1);
        check.due("26: soon", x.soon(7), 0);
        Check.tell(x, 0, "->a;->b");
        check.due("19: double ones join no more", x.one(0), 1);
        check.due("19: nor here", x.one(1), 2);
        check.due("19: nor here", x.one(2), 4);
        check.due("19: nor there", x.one(3), 8);
        check.due("14: the same rolls", x.least(7), 0);
        check.due("14: all", x.least(15), 2);
        check.due("17: no longer sure", x.sure(15, 0, 16), NONE);
        x.back();
        check.due("40: none", x.count(3), 0);
    }

    /** A shorter roll by the same number has nothing of the longer one behind its end. */
    private void shorterThere() {
        CueRolls x = Check.withRolls("->a;q>z;z>q", "a>q;z>p q r");
        check.due("25: all but the last is said", x.rehearse(3, NONE), 4);
        x.back();
        tellAll(x, "->a", "a>q");
        check.due("25: no more is said", x.rehearse(3, NONE), 2);
        check.due("22: the first", x.act(0), 0);
        check.due("22: none left", x.act(0), NONE);
        check.due("40: two", x.count(3), 2);
        check.due("18: two words", x.length(3), 2);
        check.due("14: two in order", x.least(3), 0);
        check.due("16: the second is the last", x.first(3, 1) + x.first(3, 2), 15);
        check.due("17: the second of the longer one", x.sure(3, 0, 1), CueRolls.HIDDEN);
    }

    public static void main(String[] args) {
        Check check = new Check("GoneTest");
        GoneTest test = new GoneTest(check);
        for (int kept = 0; kept < 3; kept++) {
            int some = kept;
            test.all(() -> back(some), () -> anew(some));
            test.all(() -> shorter(back(some)), () -> shorter(anew(some)));
        }
        test.oneMore();
        test.shorterThere();
        check.close();
    }
}
