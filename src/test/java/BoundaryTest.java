import java.util.NoSuchElementException;
import java.util.function.IntPredicate;
import java.util.function.Supplier;
import java.util.function.ToLongFunction;

/**
 * The promises' arguments: each at its bounds, one below, one above, far out, and where 32-bit numbers or shifts wrap
 * around to what would be fine. What is refused answers as told and changes nothing.
 */
public final class BoundaryTest {
    private static final int NONE = CueRolls.NONE;
    private static final int HIDDEN = CueRolls.HIDDEN;
    private static final int LEAST = Integer.MIN_VALUE;
    private static final int MOST = Integer.MAX_VALUE;
    private final Check check;
    private final String seen;

    private BoundaryTest(Check check) {
        this.check = check;
        seen = State.of(lived());
    }

    private void due(String call, long got, long want) {
        check.due(call, got, want);
    }

    private static long bit(boolean answer) {
        return answer ? 1 : 0;
    }

    /** Three rolls (five speeches), two plots, two habits, a play of three, something kept, a text on the tape. */
    private static CueRolls lived() {
        CueRolls x = Check.withRolls("- > good night my lord ; come in > i go", "my lord>come in;i go>good night");
        x.act(0);
        x.keep();
        Check.tell(x, 0, "good night > sweet prince");
        x.act(1);
        x.act(2);
        Check.tell(x, 1, "ab / bcd / a / d");
        Check.tell(x, 1, "j");
        Check.tell(x, 2, "y:n*2+1");
        Check.tell(x, 2, "y:l");
        x.habit(0, 0);
        x.habit(1, 1);
        x.boys(2);
        x.limit(3);
        Check.tape(x, "sweet prince>good night;-> x");
        return x;
    }

    /** As many of all as there may be; the tape is full, too. */
    private static CueRolls full() {
        CueRolls x = Check.withRolls("->a" + ";b>a".repeat(11));
        for (int roll = 1; roll < 8; roll++) {
            Check.tell(x, 0, "a>b" + ";a>b".repeat(11));
        }
        for (int i = 0; i < 4; i++) {
            Check.tell(x, 1, "abcdefghij" + "/a".repeat(19));
            Check.tell(x, 2, "y:" + i);
        }
        Check.tape(x, "->" + "abcdefgh ".repeat(11) + " ".repeat(93) + "zz zzz");
        return x;
    }

    // ---- one argument at a time

    private interface Call {
        long of(CueRolls x, int v);
    }

    /** Numbers that are fine are not refused, all others are; each object is a new one. */
    private void fine(String call, Supplier<CueRolls> maker, Call on, IntPredicate fine, long refused) {
        CueRolls x = maker.get();
        int low = MOST;
        int high = LEAST;
        for (int v = -3; v <= 300; v++) {
            if (fine.test(v)) {
                low = Math.min(low, v);
                high = Math.max(high, v);
                check.due(call + " of " + v + " is refused", on.of(x, v) == refused, false);
            } else {
                due(call + " of " + v, on.of(x, v), refused);
            }
        }
        // Where 32-bit numbers wrap around, or shifts, or the number of a speech, these come to what is fine.
        int[] far = {LEAST, LEAST + 1, MOST, MOST - 1, -16, -256, 511, 512, 1023, 1024, 1025, 1 << 16, 1 << 27, 1 << 28,
            1 << 29, 1 << 30, -1 << 27, -1 << 28, -1 << 29, -1 << 30, LEAST | low, LEAST | high};
        for (int v : far) {
            if (!fine.test(v)) {
                due(call + " of " + v, on.of(x, v), refused);
                due(call + " of " + v + " and " + low, on.of(x, v + low), fine.test(v + low) ? on.of(x, low) : refused);
            }
        }
    }

    private void lives(String call, Call on, IntPredicate fine, long refused) {
        fine(call, BoundaryTest::lived, on, fine, refused);
    }

    private void is(String call, Call on, IntPredicate fine) {
        fine(call, BoundaryTest::lived, on, fine, NONE);
    }

    private void isFull(String call, Call on, IntPredicate fine) {
        fine(call, BoundaryTest::full, on, fine, NONE);
    }

    private static IntPredicate from(int low, int high) {
        return v -> v >= low && v <= high;
    }

    private static boolean isSpeech(int v) {
        return v == 0 || v == 1 || v == 16 || v == 17 || v == 32;
    }

    private static boolean hasCue(int v) {
        return isSpeech(v) && v != 0;
    }

    private static long speech(CueRolls x, int speech, int what) {
        try {
            return x.speech(speech, what);
        } catch (NoSuchElementException e) {
            return NONE;
        }
    }

    private void textsAndSpeeches() {
        lives("4: fault(sort)", (x, v) -> x.fault(v) == HIDDEN ? HIDDEN : 0, from(0, 2), HIDDEN);
        is("5: text(sort)", (x, v) -> x.text(v), v -> v == 0);
        is("6: speech(v, 0)", (x, v) -> speech(x, v, 0), BoundaryTest::isSpeech);
        is("6: speech(1, what)", (x, v) -> speech(x, 1, v), from(0, 2));
        is("7: many(roll)", (x, v) -> x.many(v), from(0, 2));
        is("8: ends(one, 0)", (x, v) -> x.ends(v, 0), BoundaryTest::isSpeech);
        is("8: ends(1, other)", (x, v) -> x.ends(1, v), BoundaryTest::isSpeech);
        is("9: far(one, 0)", (x, v) -> x.far(v, 0), BoundaryTest::hasCue);
        is("9: far(1, other)", (x, v) -> x.far(1, v), BoundaryTest::isSpeech);
        lives("10: limit(v)", (x, v) -> bit(x.limit(v)), from(0, 8), 0);
        is("11: kind(speech, 7)", (x, v) -> x.kind(v, 7), BoundaryTest::isSpeech);
        is("11: kind(16, rolls)", (x, v) -> x.kind(16, v), v -> v == 2 || v == 3 || v == 6 || v == 7);
        is("12: kinds(rolls, 1)", (x, v) -> x.kinds(v, 1), from(1, 7));
        is("12: kinds(7, kind)", (x, v) -> x.kinds(7, v), from(0, 5));
        is("13: nearest(speech, 7)", (x, v) -> x.nearest(v, 7), BoundaryTest::hasCue);
        is("13: nearest(1, rolls)", (x, v) -> x.nearest(1, v), v -> v == 3 || v == 5 || v == 7);
    }

    private void orders() {
        is("14: least(rolls)", (x, v) -> x.least(v), from(1, 7));
        is("15: orders(rolls)", (x, v) -> x.orders(v), from(1, 7));
        is("16: first(rolls, 0)", (x, v) -> x.first(v, 0), from(1, 7));
        is("16: first(7, place)", (x, v) -> x.first(7, v), from(0, 4));
        is("16: first(2, place)", (x, v) -> x.first(2, v), from(0, 1));
        lives("17: sure(rolls, 0, 1)", (x, v) -> x.sure(v, 0, 1), v -> v == 1 || v == 3 || v == 5 || v == 7, HIDDEN);
        lives("17: sure(7, one, 1)", (x, v) -> x.sure(7, v, 1), v -> isSpeech(v) && v != 1, HIDDEN);
        lives("17: sure(7, 16, other)", (x, v) -> x.sure(7, 16, v), v -> isSpeech(v) && v != 16, HIDDEN);
        lives("17: sure(3, 16, other)", (x, v) -> x.sure(3, 16, v), v -> v == 0 || v == 1 || v == 17, HIDDEN);
        is("18: length(rolls)", (x, v) -> x.length(v), from(1, 7));
        is("19: one(roll)", (x, v) -> x.one(v), from(0, 2));
        is("20: settles(roll, 1)", (x, v) -> x.settles(v, 1), from(1, 2));
        is("20: settles(roll, 2)", (x, v) -> x.settles(v, 2), v -> v == 0 || v == 2);
        is("20: settles(2, rolls)", (x, v) -> x.settles(2, v), from(1, 3));
        is("20: settles(0, rolls)", (x, v) -> x.settles(0, v), v -> v == 2 || v == 4 || v == 6);
        is("21: next(rolls)", (x, v) -> x.next(v), from(1, 6));
    }

    private void plays() {
        is("22: act(roll)", (x, v) -> x.act(v), from(0, 1));
        is("23: play(place)", (x, v) -> x.play(v), from(NONE, 2));
        is("24: wrong(i)", (x, v) -> x.wrong(v), from(NONE, 0));
        is("25: rehearse(rolls, -1)", (x, v) -> x.rehearse(v, NONE), from(1, 7));
        is("25: rehearse(7, place)", (x, v) -> x.rehearse(7, v), from(NONE, 4));
        is("26: soon(rolls)", (x, v) -> x.soon(v), from(1, 7));
        Supplier<CueRolls> inside = () -> Check.withRolls("->p q r", "p q>a");
        fine("27: inside(one, 0)", inside, (x, v) -> x.inside(v, 0), v -> v == 16, NONE);
        fine("27: inside(16, other)", inside, (x, v) -> x.inside(16, v), v -> v == 0, NONE);
        is("28: tempted(rolls)", (x, v) -> x.tempted(v), from(1, 7));
    }

    private void plots() {
        lives("29: boys(parts)", (x, v) -> bit(x.boys(v)), from(0, 1023), 0);
        is("30: plot(plot, 0)", (x, v) -> x.plot(v, 0), from(0, 1));
        is("30: plot(0, scene)", (x, v) -> x.plot(0, v), from(NONE, 3));
        is("30: plot(1, scene)", (x, v) -> x.plot(1, v), from(NONE, 0));
        is("31: bars(plot, 0, 1, 0)", (x, v) -> x.bars(v, 0, 1, 0), v -> v == 0);
        is("31: bars(0, one, 1, 0)", (x, v) -> x.bars(0, v, 1, 0), v -> v == 0 || v == 2 || v == 3);
        is("31: bars(0, 2, other, 0)", (x, v) -> x.bars(0, 2, v, 0), v -> v == 0 || v == 1 || v == 3);
        is("31: bars(0, 0, 1, change)", (x, v) -> x.bars(0, 0, 1, v), from(0, 3));
        is("32: cast(plot, -1, 0)", (x, v) -> x.cast(v, NONE, 0), from(0, 1));
        is("32: cast(0, part, 0)", (x, v) -> x.cast(0, v, 0), from(NONE, 3));
        is("32: cast(1, part, 0)", (x, v) -> x.cast(1, v, 0), v -> v == NONE || v == 9);
        is("32: cast(0, -1, change)", (x, v) -> x.cast(0, NONE, v), from(0, 3));
        is("33: crowd(plot, 0)", (x, v) -> x.crowd(v, 0), from(0, 1));
        is("33: crowd(0, what)", (x, v) -> x.crowd(0, v), from(0, 1));
        is("34: could(plot, 0, 3, 3)", (x, v) -> x.could(v, 0, 3, 3), from(0, 1));
        is("34: could(0, change, 3, 3)", (x, v) -> x.could(0, v, 3, 3), from(0, 3));
        is("34: could(0, 0, men, 3)", (x, v) -> x.could(0, 0, v, 3), from(0, 10));
        is("34: could(0, 0, 3, boys)", (x, v) -> x.could(0, 0, 3, v), from(0, 10));
    }

    private void habits() {
        lives("35: habit(roll, 0)", (x, v) -> bit(x.habit(v, 0)), from(0, 2), 0);
        lives("35: habit(0, habit)", (x, v) -> bit(x.habit(0, v)), from(NONE, 1), 0);
        is("36: worth(roll, 0)", (x, v) -> x.worth(v, 0), from(0, 2));
        is("36: worth(0, habit)", (x, v) -> x.worth(0, v), from(0, 1));
        is("37: likely(speech, 0)", (x, v) -> x.likely(v, 0), v -> v == 16 || v == 17 || v == 32);
        is("37: likely(speech, 1)", (x, v) -> x.likely(v, 1), v -> v == 1 || v == 32);
        is("37: likely(16, roll)", (x, v) -> x.likely(16, v), v -> v == 0);
        is("37: likely(32, roll)", (x, v) -> x.likely(32, v), from(0, 1));
        is("40: count(what)", (x, v) -> x.count(v), from(0, 6));
    }

    private void end() {
        for (int size : new int[] {0, 1, 28, 199, 200}) {
            for (int n : new int[] {LEAST, LEAST + size, -256, -1, 0, 1, 27, 28, 29, 198, 199, 200, 201, 256, MOST}) {
                CueRolls x = new CueRolls();
                Check.feed(x, "a".repeat(size));
                boolean within = n >= 0 && n <= size;
                due("3: end(" + n + ") of " + size, bit(x.end(n)), bit(within));
                due("3: bytes behind end(" + n + ") of " + size, x.count(4), within ? n : size);
            }
        }
    }

    /** When all is full the highest of each is there, one more is not. */
    private void fullOnes() {
        isFull("6: full, speech(v, 0)", (x, v) -> speech(x, v, 0), v -> v >= 0 && v < 128 && v % 16 < 12);
        isFull("7: full, many(roll)", (x, v) -> x.many(v), from(0, 7));
        isFull("8: full, ends(one, other)", (x, v) -> x.ends(v, v), v -> v >= 0 && v < 128 && v % 16 < 12);
        isFull("12: full, kinds(rolls, 1)", (x, v) -> x.kinds(v, 1), from(1, 255));
        isFull("18: full, length(rolls)", (x, v) -> x.length(v), from(1, 255));
        isFull("19: full, one(roll)", (x, v) -> x.one(v), from(0, 7));
        isFull("20: full, settles(roll, 1)", (x, v) -> x.settles(v, 1), from(1, 7));
        isFull("21: full, next(rolls)", (x, v) -> x.next(v), from(1, 254));
        isFull("25: full, rehearse(rolls, -1)", (x, v) -> x.rehearse(v, NONE), from(1, 255));
        isFull("26: full, soon(rolls)", (x, v) -> x.soon(v), from(1, 255));
        isFull("28: full, tempted(rolls)", (x, v) -> x.tempted(v), from(1, 255));
        isFull("30: full, plot(plot, 0)", (x, v) -> x.plot(v, 0), from(0, 3));
        isFull("30: full, plot(3, scene)", (x, v) -> x.plot(3, v), from(NONE, 19));
        isFull("32: full, cast(0, part, 0)", (x, v) -> x.cast(0, v, 0), from(NONE, 9));
        isFull("36: full, worth(roll, 3)", (x, v) -> x.worth(v, 3), from(0, 7));
        isFull("36: full, worth(7, habit)", (x, v) -> x.worth(7, v), from(0, 3));
        fine("35: full, habit(7, habit)", BoundaryTest::full, (x, v) -> bit(x.habit(7, v)), from(NONE, 3), 0);
        CueRolls x = full();
        due("40: full", x.count(0) * 1000 + x.count(1) * 100 + x.count(2) * 10, 8440);
        due("40: full, speeches", x.count(3), 96);
        due("40: full, bytes", x.count(4), 200);
        due("4: full, fault(0)", x.fault(0), 197);
        due("4: full, fault(1)", x.fault(1), 0);
        due("5: full, text(0)", x.text(0), NONE);
        due("40: full, the tape stays", x.count(4), 200);
    }

    // ---- what is refused changes nothing

    private void unchanged(String call, ToLongFunction<CueRolls> on, long want) {
        CueRolls x = lived();
        due(call, on.applyAsLong(x), want);
        check.due(call + " changes nothing", State.of(x).equals(seen), true);
    }

    private void refusedOfTexts() {
        unchanged("2: feed of more than 200", x -> {
            for (int i = 0; i < 8; i++) {
                x.feed(-1, -1, -1, -1, -1);
            }
            long got = x.feed(-1, -1, -1, -1, -1);
            x.end(28);
            return got;
        }, NONE);
        unchanged("2: feed of nothing", x -> x.feed(0, 0, 0, 0, 0), 28);
        unchanged("3: end(-1)", x -> bit(x.end(-1)), 0);
        unchanged("3: end(29)", x -> bit(x.end(29)), 0);
        unchanged("3: end(28)", x -> bit(x.end(28)), 1);
        unchanged("4: fault(0)", x -> x.fault(0), NONE);
        unchanged("4: fault(1)", x -> x.fault(1), 0);
        unchanged("4: fault(3)", x -> x.fault(3), HIDDEN);
        unchanged("5: text(1) with a fault", x -> x.text(1), NONE);
        unchanged("5: text(2) with a fault", x -> x.text(2), NONE);
        unchanged("5: text(3)", x -> x.text(3), NONE);
        unchanged("5: text(-1)", x -> x.text(-1), NONE);
        unchanged("6: speech(2, 0)", x -> speech(x, 2, 0), NONE);
        unchanged("6: speech(0, 3)", x -> speech(x, 0, 3), NONE);
    }

    private void refusedOfRolls() {
        unchanged("10: limit(-1)", x -> bit(x.limit(-1)), 0);
        unchanged("10: limit(9)", x -> bit(x.limit(9)), 0);
        unchanged("22: act(3)", x -> x.act(3), NONE);
        unchanged("22: act(-1)", x -> x.act(-1), NONE);
        unchanged("22: act(2), none left", x -> x.act(2), NONE);
        unchanged("29: boys(-1)", x -> bit(x.boys(-1)), 0);
        unchanged("29: boys(1024)", x -> bit(x.boys(1024)), 0);
        unchanged("35: habit(3, 0)", x -> bit(x.habit(3, 0)), 0);
        unchanged("35: habit(-1, 0)", x -> bit(x.habit(-1, 0)), 0);
        unchanged("35: habit(0, 2)", x -> bit(x.habit(0, 2)), 0);
        unchanged("35: habit(0, -2)", x -> bit(x.habit(0, -2)), 0);
        CueRolls x = lived();
        due("39: back()", x.back(), 3);
        due("39: back() again", x.back(), 3);
        CueRolls kept = lived();
        kept.keep();
        check.due("38: keep() changes what goes", State.of(kept).equals(seen), false);
    }

    /** Calls that only tell, refused or not. */
    private void onlyTold() {
        unchanged("7: many", x -> x.many(0) + x.many(3), 1);
        unchanged("8: ends", x -> x.ends(16, 0) + x.ends(16, 2), 0);
        unchanged("9: far", x -> x.far(16, 0) + x.far(0, 16), -1);
        unchanged("11: kind", x -> x.kind(16, 7) + x.kind(16, 1), 0);
        unchanged("12: kinds", x -> x.kinds(7, 1) + x.kinds(8, 1), 3);
        unchanged("13: nearest", x -> x.nearest(16, 7) + x.nearest(16, 0), -1);
        unchanged("14: least", x -> x.least(7) + x.least(0), -1);
        unchanged("15: orders", x -> x.orders(7) + x.orders(8), 0);
        unchanged("16: first", x -> x.first(7, 4) + x.first(7, 5), 31);
        unchanged("17: sure", x -> x.sure(7, 0, 16) + x.sure(7, 0, 0), -1);
        unchanged("18: length", x -> x.length(7) + x.length(0), 11);
        unchanged("19: one", x -> x.one(0) + x.one(3), 6);
        unchanged("20: settles", x -> x.settles(1, 1) + x.settles(0, 1), 0);
        unchanged("21: next", x -> x.next(1) + x.next(7), 0);
        unchanged("23: play", x -> x.play(NONE) + x.play(3), 2);
        unchanged("24: wrong", x -> x.wrong(NONE) + x.wrong(9), 0);
        unchanged("25: rehearse", x -> x.rehearse(7, NONE) + x.rehearse(7, 5), 4);
        unchanged("26: soon", x -> x.soon(7) + x.soon(8), 0);
        unchanged("27: inside", x -> x.inside(16, 0) + x.inside(1, 16), -2);
        unchanged("28: tempted", x -> x.tempted(7) + x.tempted(8), 0);
        unchanged("30: plot", x -> x.plot(0, 0) + x.plot(0, 4), 2);
        unchanged("31: bars", x -> x.bars(0, 2, 3, 0) + x.bars(0, 0, 0, 0), 0);
        unchanged("32: cast", x -> x.cast(0, NONE, 0) + x.cast(0, 4, 0), 2);
        unchanged("33: crowd", x -> x.crowd(0, 1) + x.crowd(0, 2), 2);
        unchanged("34: could", x -> x.could(0, 0, 2, 1) + x.could(0, 0, 11, 1), 0);
        unchanged("36: worth", x -> x.worth(0, 0) + x.worth(0, 2), 13);
        unchanged("37: likely", x -> x.likely(16, 0) + x.likely(16, 2), 8);
        unchanged("40: count", x -> x.count(0) + x.count(7), 2);
    }

    // ---- nothing told yet

    private void empty() {
        CueRolls x = new CueRolls();
        for (int v : new int[] {LEAST, -1, 0, 1, MOST}) {
            due("6: empty, speech", speech(x, v, 0), NONE);
            due("7: empty, many", x.many(v), NONE);
            due("8: empty, ends", x.ends(v, v), NONE);
            due("9: empty, far", x.far(v, v), NONE);
            due("11: empty, kind", x.kind(v, 1), NONE);
            due("12: empty, kinds", x.kinds(v, 0), NONE);
            due("13: empty, nearest", x.nearest(0, v), NONE);
            due("14: empty, least", x.least(v), NONE);
            due("15: empty, orders", x.orders(v), NONE);
            due("16: empty, first", x.first(v, 0), NONE);
            due("17: empty, sure", x.sure(v, 0, 1), HIDDEN);
            due("18: empty, length", x.length(v), NONE);
            due("19: empty, one", x.one(v), NONE);
            due("20: empty, settles", x.settles(v, 1), NONE);
            due("21: empty, next", x.next(v), NONE);
            due("22: empty, act", x.act(v), NONE);
            due("23: empty, play", x.play(v), v == NONE ? 0 : NONE);
            due("24: empty, wrong", x.wrong(v), v == NONE ? 0 : NONE);
            due("25: empty, rehearse", x.rehearse(v, NONE), NONE);
            due("26: empty, soon", x.soon(v), NONE);
            due("27: empty, inside", x.inside(v, 0), NONE);
            due("28: empty, tempted", x.tempted(v), NONE);
            due("30: empty, plot", x.plot(v, NONE), NONE);
            due("31: empty, bars", x.bars(v, 0, 1, 0), NONE);
            due("32: empty, cast", x.cast(v, NONE, 0), NONE);
            due("33: empty, crowd", x.crowd(v, 0), NONE);
            due("34: empty, could", x.could(v, 0, 0, 0), NONE);
            due("35: empty, habit", bit(x.habit(v, NONE)), 0);
            due("36: empty, worth", x.worth(v, 0), NONE);
            due("37: empty, likely", x.likely(v, 0), NONE);
        }
        due("38: empty, keep", x.keep(), 0);
        due("39: empty, back", x.back(), 0);
        due("4: empty, fault(0)", x.fault(0), 0);
        due("4: empty, fault(1)", x.fault(1), 0);
        due("4: empty, fault(2)", x.fault(2), 0);
        due("5: empty, text(0)", x.text(0), NONE);
        due("5: empty, text(1)", x.text(1), NONE);
        due("5: empty, text(2)", x.text(2), NONE);
        check.due("1: nothing has changed", State.of(x).equals(State.of(new CueRolls())), true);
    }

    // ---- the tape

    private void tape() {
        CueRolls x = new CueRolls();
        due("2: the lowest byte of the last number", x.feed(0, 0, 0, 0, 1), 1);
        due("2: the highest byte of the first", x.feed(LEAST, 0, 0, 0, 0), 2);
        due("2: four bytes of one", x.feed(0, 0, -1, 0, 0), 6);
        due("2: twenty of five", x.feed(MOST, MOST, MOST, MOST, MOST), 26);
        due("2: bytes of 0 between", x.feed(0x01000001, 0x00010100, 0x01000100, 0x00010001, 0), 34);
        for (int size = 54; size <= 194; size += 20) {
            due("2: twenty more", x.feed(-1, -1, -1, -1, -1), size);
        }
        due("2: seven more are too many", x.feed(-1, 0x01010100, 0, 0, 0), NONE);
        due("2: twenty more are too many", x.feed(-1, -1, -1, -1, -1), NONE);
        due("2: six more", x.feed(-1, 0, 0, 0, 0x01000100), 200);
        due("2: one more", x.feed(0, 0, 0, 0, 1), NONE);
        due("2: none more", x.feed(0, 0, 0, 0, 0), 200);
        CueRolls y = Check.withRolls();
        due("2: the order of numbers", y.feed(0x2d3e6100, 0x62, 0x63000000, 0x0064, 0x650066), 8);
        y.text(0);
        due("2: the order of bytes", y.speech(0, 2), 6);
        Check.tell(y, 0, "->abcdef;abcdef>q");
        due("2: the order of bytes", y.ends(17, 0), 1);
    }

    /** An object lives for 512 calls: the last of them is as good as the first. */
    private void lifetime() {
        CueRolls x = full();
        CueRolls y = full();
        // To make it full took 8 + 4 + 4 texts and a tape: some 130 calls.
        for (int i = 0; i < 380; i++) {
            int some = i * 37 & 255;
            int roll = i & 7;
            switch (i % 4) {
                case 0 -> x.least(some);
                case 1 -> x.sure(some, 16 * roll, 16 * roll + 1);
                case 2 -> x.act(roll);
                default -> x.cast(roll & 3, NONE, roll & 3);
            }
        }
        due("the last calls: least", x.least(1), y.least(1));
        due("the last calls: kinds", x.kinds(255, 2), y.kinds(255, 2));
    }

    private void all() {
        textsAndSpeeches();
        end();
        orders();
        plays();
        plots();
        habits();
        fullOnes();
        refusedOfTexts();
        refusedOfRolls();
        onlyTold();
        empty();
        tape();
        lifetime();
    }

    public static void main(String[] args) {
        Check check = new Check("BoundaryTest");
        new BoundaryTest(check).all();
        check.close();
    }
}
