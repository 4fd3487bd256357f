/**
 * The document's terms sentence by sentence: each that names a boundary (too small, too large, empty, full) has a
 * test of its own, which begins with the sentence.
 */
public final class TermsTest {
    private static final int NONE = CueRolls.NONE;
    private static final int HIDDEN = CueRolls.HIDDEN;
    private final Check check;
    private String sentence = "";
    private int tests;

    private TermsTest(Check check) {
        this.check = check;
    }

    /** Begins the test of a sentence. */
    private void says(String sentence) {
        check.due("'" + this.sentence + "' has a test", tests > 0 || this.sentence.isEmpty(), true);
        this.sentence = sentence;
        tests = 0;
    }

    private void due(String call, long got, long want) {
        tests++;
        check.due("'" + sentence + "' " + call, got, want);
    }

    private void due(String call, boolean got, boolean want) {
        due(call, got ? 1 : 0, want ? 1 : 0);
    }

    private void faultOf(int sort, String text, int want) {
        due("fault(" + sort + ") of '" + text + "'", Check.fault(sort, text), want);
    }

    private void noSuch(String call, CueRolls x, int speech) {
        tests++;
        check.throwsNoSuch("'" + sentence + "' " + call, x, speech, 0);
    }

    /** An item so many times, with ; between. */
    private static String items(String item, int number) {
        return item + (";" + item).repeat(number - 1);
    }

    private static CueRolls full(String first, String item) {
        CueRolls x = Check.withRolls(first + ";" + items(item, 11));
        for (int roll = 1; roll < 8; roll++) {
            Check.tell(x, 0, items(item, 12));
        }
        return x;
    }

    // ---- rolls

    private void words() {
        says("WORDS have 1 to 8 letters a .. z.");
        CueRolls x = Check.withRolls("a>z;abcdefgh>stuvwxyz");
        due("one letter", x.speech(0, 2), 1);
        due("eight letters", x.speech(1, 2), 8);
        faultOf(0, "abcdefghi>a", 8);
        faultOf(0, "->abcdefghi", 10);
        faultOf(0, ">a", 0);
        faultOf(0, "->", 2);
        for (char sign : new char[] {'`', '{', 'A', 'Z', '0', '\'', 127, 128, 225, 250, 255}) {
            faultOf(0, "->" + sign, 2);
            faultOf(0, "->a" + sign, 3);
            faultOf(0, "" + sign, 0);
        }
    }

    private void rolls() {
        says("ROLLS (8 at most) are TEXTS");
        CueRolls x = new CueRolls();
        for (int roll = 0; roll < 8; roll++) {
            due("roll " + roll, Check.tell(x, 0, "->a"), roll);
        }
        due("a ninth", Check.tell(x, 0, "->a"), NONE);
        due("it is not there", x.many(8), NONE);
        due("eight", x.count(0), 8);
        due("the tape stays", x.count(4), 3);
        x.back();
        due("as the first, when the others are gone", x.text(0), 0);
    }

    private void items() {
        says("ITEMS with ; between (12 at most)");
        faultOf(0, "", 0);
        faultOf(0, ";", 0);
        faultOf(0, "->a;", 4);
        due("one", Check.withRolls("->a").many(0), 1);
        due("twelve", Check.withRolls(items("->a", 12)).many(0), 12);
        due("thirteen", Check.withRolls(items("->a", 13)).many(0), NONE);
        says("1 to 12 WORDS (a SPEECH)");
        faultOf(0, "->;->a", 2);
        due("one", Check.withRolls("->a").speech(0, 0), 1);
        String twelve = "->a bb c d e f g h i j k lmn";
        CueRolls x = Check.withRolls(twelve);
        due("twelve", x.speech(0, 0), 12);
        due("the twelfth", x.speech(0, 2), 3);
        faultOf(0, twelve + " o", 29);
        says("CUE: - (nothing), or one or two WORDS.");
        CueRolls y = Check.withRolls("->a;b>c;d e>f");
        due("nothing", y.speech(0, 1), 0);
        due("one", y.speech(1, 1), 1);
        due("two", y.speech(2, 1), 2);
        faultOf(0, ">f", 0);
        faultOf(0, "d e f>g", 4);
        faultOf(0, "-->a", 1);
        faultOf(0, "- d>a", 2);
        faultOf(0, "d ->a", 2);
    }

    private void blanks() {
        says("Blanks (32) stand between WORDS (one or more), and may stand between all these.");
        due("one between words", Check.withRolls("->a b").speech(0, 0), 2);
        due("many between words", Check.withRolls("->a" + " ".repeat(196) + "b").speech(0, 0), 2);
        due("none, one word", Check.withRolls("->ab").speech(0, 0), 1);
        due("between words of a cue", Check.withRolls("a   b>c").speech(0, 1), 2);
        faultOf(0, "   -   >   a   ;   b   c   >   d   ", NONE);
        faultOf(0, "->a;b c>d", NONE);
        String blank = " ".repeat(197);
        CueRolls x = new CueRolls();
        due("a full tape, blanks ahead", Check.tell(x, 0, blank + "->a"), 0);
        due("a full tape, blanks behind", Check.tell(x, 0, "->a" + blank), 1);
        due("one word each", x.speech(0, 0) + x.speech(16, 0), 2);
        faultOf(0, " ".repeat(200), 200);
        for (char sign : new char[] {1, '\t', '\n', '\r', 31, '#', '_', 160}) {
            faultOf(0, "->a" + sign + "b", 3);
            faultOf(0, sign + "->a", 0);
            faultOf(1, "a" + sign + "/b", 1);
            faultOf(2, "y:" + sign + "n", 2);
        }
    }

    private void faults() {
        says("FAULT: the first byte at which no ROLL can go on (the length, if it ends too early)");
        faultOf(0, "", 0);
        faultOf(0, "->a" + " ".repeat(196) + "!", 199);
        faultOf(0, "->" + " ".repeat(198), 200);
        faultOf(0, "!" + " ".repeat(199), 0);
        String[] rolls = {" a bc > d ef ; - > g ; abcdefgh ijklmnop > abcdefgh a ", items("a b>c d", 12)};
        for (String roll : rolls) {
            heads(0, roll, ">;");
        }
        says("a ninth letter, a third WORD of a CUE, a thirteenth of a SPEECH are wrong at their first byte");
        faultOf(0, "abcdefghij>a", 8);
        faultOf(0, "a bcdefghijk>a", 10);
        faultOf(0, "->a bcdefghi;bcdefghij>a", 21);
        faultOf(0, "a b cde>f", 4);
        faultOf(0, "a b    cdefghijkl>f", 7);
        faultOf(0, "a b c d", 4);
        String twelve = "->a b c d e f g h i j k abcdefgh";
        faultOf(0, twelve, NONE);
        faultOf(0, twelve + "i", 32);
        faultOf(0, twelve + " mno", 33);
        faultOf(0, twelve + " abcdefghijk", 33);
        faultOf(0, "->a;" + twelve + " m", 37);
        says("a thirteenth ITEM at the ; ahead of it.");
        String full = items("->a", 12);
        faultOf(0, full, NONE);
        faultOf(0, full + "  ", NONE);
        faultOf(0, full + ";", 47);
        faultOf(0, full + "  ;  ->a", 49);
        faultOf(0, full + ";!", 47);
        faultOf(0, items("->a", 14), 47);
        faultOf(0, full + "!;", 47);
    }

    /** Each head of a text that is right goes on: it is wrong nowhere but at its end, and there behind such a sign. */
    private void heads(int sort, String text, String open) {
        faultOf(sort, text, NONE);
        for (int length = 0; length < text.length(); length++) {
            String head = text.substring(0, length);
            int fault = Check.fault(sort, head);
            due("fault(" + sort + ") of '" + head + "' or its length", fault == NONE ? length : fault, length);
            String told = head.trim();
            if (told.isEmpty() || open.indexOf(told.charAt(told.length() - 1)) >= 0) {
                faultOf(sort, head, length);
            }
        }
    }

    private void numbers() {
        says("A SPEECH is numbered 16 times its ROLL and its place there (0 ..).");
        CueRolls x = full("->a", "a>b");
        for (int roll = 0; roll < 8; roll++) {
            for (int place = 0; place < 12; place++) {
                due("speech " + (16 * roll + place), x.speech(16 * roll + place, 0), 1);
            }
            noSuch("speech " + (16 * roll + 12), x, 16 * roll + 12);
            noSuch("speech " + (16 * roll + 15), x, 16 * roll + 15);
        }
        noSuch("speech -1", x, -1);
        noSuch("speech -16", x, -16);
        noSuch("speech 128", x, 128);
        due("the first", x.act(0), 0);
        due("of the last roll", x.act(7), 112);
    }

    private void endings() {
        says("A CUE ENDS a SPEECH, if its WORDS are the last ones of that.");
        CueRolls x = Check.withRolls("abcdefgh ijklmnop>a;b>b;->c", "->abcdefgh ijklmnop;->ijklmnop;->z abcdefgh ijklmnop",
                "->bbcdefgh ijklmnop;->abcdefgh ijklmnoo;->abcdefgh ijklmnop q;->ijklmnop abcdefgh;->b c;->bb;->c b");
        due("all its words", x.ends(0, 16), 1);
        due("it has fewer", x.ends(0, 17), 0);
        due("it has more", x.ends(0, 18), 1);
        due("the first letter of all is another", x.ends(0, 32), 0);
        due("the last letter of all is another", x.ends(0, 33), 0);
        due("not the last ones", x.ends(0, 34), 0);
        due("the other way round", x.ends(0, 35), 0);
        due("one word, not the last", x.ends(1, 36), 0);
        due("one word, a part of it", x.ends(1, 37), 0);
        due("one word, the last", x.ends(1, 38), 1);
        due("itself", x.ends(1, 1), 1);
        due("no cue", x.ends(2, 2), 0);
    }

    private void farness() {
        says("FAR of a CUE from a SPEECH: the fewest letters (a blank between WORDS is one) put in, taken out, changed");
        CueRolls x = Check.withRolls("ab>q;a b>q;abcdefgh ijklmnop>q",
                "->ab;->abc;->b;->xb;->zzzzzzzz;->z;->zzzzzzzz zzzzzzzz;->bcdefgha ijklmnop;->ba;->x a b;->x ab", "->a c b");
        due("none", x.far(0, 16), 0);
        due("one put in", x.far(0, 17), 1);
        due("one taken out", x.far(0, 18), 1);
        due("one changed", x.far(0, 19), 1);
        due("all changed, the others put in", x.far(0, 20), 8);
        due("two that change places", x.far(0, 24), 2);
        due("taken out ahead, put in behind", x.far(2, 23), 2);
        due("the farthest with one word", x.far(2, 21), 17);
        due("the farthest with two: the blank stays", x.far(2, 22), 16);
        due("the blank between words is one", x.far(1, 16), 1);
        due("the blank and a letter", x.far(1, 18), 2);
        due("the blank is no letter", x.far(1, 32), 1);
        says("that make it as many last WORDS of that as the CUE has (all, if it has fewer).");
        due("the last two alone", x.far(1, 25), 0);
        due("the last one alone", x.far(0, 26), 0);
        due("one, as it has fewer", x.far(2, 20), 17);
        due("one, no more: not the blank", x.far(0, 25), 1);
    }

    // ---- what cues are

    private void bits() {
        says("(Some ROLLS are told as bits, never 0.)");
        CueRolls x = full("->a", "a>a");
        for (int some : new int[] {0, 256, 257, -1, 1 << 31, 1 << 31 | 1, 1 << 8 | 255}) {
            String told = "(" + some + ")";
            due("kind" + told, x.kind(0, some), NONE);
            due("kinds" + told, x.kinds(some, 1), NONE);
            due("nearest" + told, x.nearest(1, some), NONE);
            due("least" + told, x.least(some), NONE);
            due("orders" + told, x.orders(some), NONE);
            due("first" + told, x.first(some, 0), NONE);
            due("sure" + told, x.sure(some, 0, 16), HIDDEN);
            due("length" + told, x.length(some), NONE);
            due("settles" + told, x.settles(7, some & ~128), NONE);
            due("next" + told, x.next(some & ~128), NONE);
            due("rehearse" + told, x.rehearse(some, NONE), NONE);
            due("soon" + told, x.soon(some), NONE);
            due("tempted" + told, x.tempted(some), NONE);
        }
        due("all of them", x.kinds(255, 0), 1);
        due("the lowest alone", x.kinds(1, 0), 1);
        due("the highest alone", x.kinds(128, 0), 0);
        due("the highest alone has", x.length(128), 12 + 1);
    }

    private void kinds() {
        says("1 MET: it ENDS just one SPEECH of the others; 2 DOUBLE: several of these");
        CueRolls x = Check.withRolls("a>q", "->a;->x", "->y a;->x", "->a");
        due("none", x.kind(0, 1), 5);
        due("just one", x.kind(0, 3), 1);
        due("two", x.kind(0, 7), 2);
        due("three", x.kind(0, 15), 2);
        due("two of one roll", Check.withRolls("a>q", "->a;->a").kind(0, 3), 2);
        due("one of the others, one of its own", Check.withRolls("->a;a>q;->a", "->a").kind(1, 3), 1);
        says("3 OWN: none of these, but one of its own ROLL, ahead of it");
        due("right ahead", Check.withRolls("->a;a>q").kind(1, 1), 3);
        due("far ahead", Check.withRolls("->a;" + items("->z", 10) + ";a>q").kind(11, 1), 3);
        due("the first has none ahead", Check.withRolls("a>q;->a").kind(0, 1), 5);
        due("itself", Check.withRolls("->q;a>a").kind(1, 1), 5);
        due("the one behind", Check.withRolls("->q;a>q;->a").kind(1, 1), 5);
        due("of the roll below", Check.withRolls("->a", "->q;a>q").kind(17, 2), 5);
        says("4 SLIPPED: none such, but FAR of some SPEECH of the others is no more than the LIMIT (0 .. 8; 1 at first); "
                + "5 LOST: none of all.");
        for (int far = 1; far <= 8; far++) {
            CueRolls y = Check.withRolls("aaaaaaaa>b", "->" + "z".repeat(far) + "a".repeat(8 - far));
            due("at first, " + far + " letters", y.kind(0, 3), far == 1 ? 4 : 5);
            for (int limit = 0; limit <= 8; limit++) {
                due("limit(" + limit + ")", y.limit(limit), true);
                due("limit " + limit + ", " + far + " letters", y.kind(0, 3), far <= limit ? 4 : 5);
            }
            due("limit(9)", y.limit(9), false);
            due("limit(-1)", y.limit(-1), false);
        }
        CueRolls nine = Check.withRolls("aaaaaaaa b>b", "->zzzzzzzz c", "->aaaaaaaa zzzzzzzz");
        nine.limit(8);
        due("limit 8, nine letters", nine.kind(0, 3), 5);
        due("limit 8, eight letters", nine.kind(0, 5), 4);
        due("met with limit 0", Check.withRolls("a>b", "->a").kind(0, 3), 1);
        CueRolls met = Check.withRolls("a>b", "->a;->c");
        met.limit(8);
        due("met with limit 8", met.kind(0, 3), 1);
        says("NEAREST: of SPEECHES of the others the one least FAR (of several the lowest).");
        CueRolls z = Check.withRolls("ab>ab;->ab", "->zz;->ac;->zb", "->ad;->ab");
        due("no others", z.nearest(0, 1), NONE);
        due("of several the lowest", z.nearest(0, 3), 17);
        due("the least far", z.nearest(0, 7), 33);
        due("far from all", Check.withRolls("zz>q", "->aa;->bb").nearest(0, 3), 16);
    }

    // ---- orders

    private void orders() {
        says("A SPEECH in it FOLLOWS, if its CUE ENDS the one right ahead of it, of another ROLL, or if it has none and is "
                + "the first; else there is a GAP ahead of it.");
        due("none and the first", Check.withRolls("->a").least(1), 0);
        due("a cue and the first", Check.withRolls("a>a").least(1), 1);
        due("none and the second", Check.withRolls("->a;->b").least(1), 1);
        due("a cue that ends one of its own", Check.withRolls("->a;a>b").least(1), 1);
        due("a cue that ends one of another", Check.withRolls("->a", "a>b").least(3), 0);
        says("LEAST: the fewest GAPS of all ORDERS; BEST are ORDERS with so few.");
        CueRolls lost = Check.withRolls(items("z>a", 12), items("z>a", 8));
        due("a gap ahead of each", lost.least(3), 20);
        due("all orders are best: 20 over 8", lost.orders(3), 125970);
        CueRolls none = Check.withRolls("->a;" + items("b>a", 9), items("a>b", 10));
        due("no gap at all", none.least(3), 0);
        due("just one is best", none.orders(3), 1);
        due("one roll of twelve", Check.withRolls(items("->a", 12)).least(1), 11);
        due("has one order", Check.withRolls(items("->a", 12)).orders(1), 1);
        says("The FIRST of these: that with the lower ROLL where two first differ.");
        for (int place = 0; place < 20; place++) {
            due("lost, place " + place, lost.first(3, place), place < 12 ? place : 4 + place);
            due("without gap, place " + place, none.first(3, place), place % 2 * 16 + place / 2);
        }
        due("behind the last", lost.first(3, 20), NONE);
        due("ahead of the first", lost.first(3, -1), NONE);
        CueRolls late = Check.withRolls("->a;x>b", "->c;->x");
        int[] want = {0, 16, 17, 1};
        for (int place = 0; place < 4; place++) {
            due("best before low, place " + place, late.first(3, place), want[place]);
        }
        says("SURE of two SPEECHES: 1, if in all BEST the one stands right ahead of the other; 0, if in none; else open.");
        due("in all", none.sure(3, 0, 16), 1);
        due("the last two", none.sure(3, 9, 25), 1);
        due("in none", none.sure(3, 0, 17), 0);
        due("the other way round", none.sure(3, 16, 0), 0);
        due("in some", lost.sure(3, 11, 16), NONE);
        due("in none, as others stand between", lost.sure(3, 0, 2), 0);
        due("in just one of all", Check.withRolls("->a", "->b").sure(3, 0, 16), NONE);
        due("one roll", Check.withRolls("->a;->b").sure(1, 0, 1), 1);
    }

    private void told() {
        says("All this is told only if these have 20 SPEECHES at most together");
        CueRolls x = Check.withRolls(items("->a", 12), items("->a", 8), items("->a", 9), "->a");
        due("20: least", x.least(3), 19);
        due("20: orders", x.orders(3), 125970);
        due("20: first", x.first(3, 19), 23);
        due("20: sure", x.sure(3, 1, 0), 0);
        for (int some : new int[] {5, 11, 15}) {
            due("21 or more: least", x.least(some), NONE);
            due("21 or more: orders", x.orders(some), NONE);
            due("21 or more: first", x.first(some, 0), NONE);
            due("21 or more: sure", x.sure(some, 1, 0), HIDDEN);
        }
        due("20 again: least", x.least(3), 19);
        says("and the product of (SPEECHES and 1) of these ROLLS is 20,000 at most.");
        // Of all with 20 speeches at most these are the greatest product told and the least that is not.
        CueRolls most = sized(2, 2, 2, 2, 2, 3, 3, 4);
        due("19,440: least", most.least(255), 19);
        due("19,440: orders", most.orders(255), 87995587680000L);
        due("19,440: first", most.first(255, 19), 115);
        due("19,440: sure", most.sure(255, 0, 1), NONE);
        CueRolls more = sized(2, 2, 2, 2, 3, 3, 3, 3);
        due("20,736: least", more.least(255), NONE);
        due("20,736: orders", more.orders(255), NONE);
        due("20,736: first", more.first(255, 0), NONE);
        due("20,736: sure", more.sure(255, 0, 1), HIDDEN);
        due("6,912: least", more.least(254), 17);
        CueRolls huge = full("->a", "->a");
        due("13 to the eighth: least", huge.least(255), NONE);
        due("13 to the fourth: orders", huge.orders(15), NONE);
        due("13: least", huge.least(128), 11);
    }

    private static CueRolls sized(int... sizes) {
        CueRolls x = new CueRolls();
        for (int size : sizes) {
            Check.tell(x, 0, items("->a", size));
        }
        return x;
    }

    // ---- one play of several rolls

    private void lengths() {
        says("LENGTH of some ROLLS, in WORDS: all WORDS of their SPEECHES, and for each LOST CUE (alike ones once) its WORDS.");
        due("the least", Check.withRolls("->a").length(1), 1);
        due("a lost cue of two", Check.withRolls("x y>a").length(1), 3);
        CueRolls x = full("x y>a", "x y>a");
        due("96 alike once", x.length(255), 96 + 2);
        CueRolls y = new CueRolls();
        for (int roll = 0; roll < 8; roll++) {
            StringBuilder text = new StringBuilder();
            for (int place = 0; place < 12; place++) {
                text.append(place == 0 ? "" : ";").append((char) ('a' + roll)).append((char) ('a' + place)).append("xx yy>q");
            }
            Check.tell(y, 0, text.toString());
        }
        due("96 unlike", y.length(255), 96 + 2 * 96);
        String twelve = "->a b c d e f g h i j k l;->a b c d e f g h i j k l";
        due("words alone", Check.withRolls(twelve).length(1), 24);
        due("one word is not two", Check.withRolls("x y>a;y>a;x>a").length(1), 3 + 2 + 1 + 1);
        due("the same words the other way round", Check.withRolls("x y>a;y x>a").length(1), 2 + 4);
        CueRolls z = Check.withRolls("->a;x y>q;a>q;zzz>q", "->x y;->zzy");
        due("met, own, slipped ones count nothing", z.length(3), 4 + 3);
        due("own alone, others lost", z.length(1), 4 + 2 + 1);
    }

    private void joined() {
        says("ONE: ROLLS that are joined with a ROLL by MET CUES (among all ROLLS), also by others' between.");
        due("itself alone", Check.withRolls("->a").one(0), 1);
        CueRolls x = Check.withRolls("->a", "b>b", "a>c", "e>d", "c>e", "zz>f", "d>b", "x>g");
        for (int roll : new int[] {0, 1, 2, 3, 4, 6}) {
            due("one(" + roll + ")", x.one(roll), 1 + 2 + 4 + 8 + 16 + 64);
        }
        due("the lost alone", x.one(5), 32);
        due("the last alone", x.one(7), 128);
        due("by its own no one is joined", Check.withRolls("->a;a>b", "->q").one(0), 1);
        due("by double ones neither", Check.withRolls("a>b", "->a", "->a").one(0), 1);
        due("by slipped ones neither", Check.withRolls("a>b", "->c").one(0), 1);
        says("SETTLES of a ROLL not among some: how many CUES of KIND 4, 5 among those are of KIND 1, 2 with it, too");
        CueRolls y = Check.withRolls(items("a>q", 12), "->a", "->a;->a", "->b", "a>a");
        due("all twelve, met", y.settles(1, 1), 12);
        due("all twelve, double", y.settles(2, 1), 12);
        due("none", y.settles(3, 1), 0);
        due("slipped ones", y.settles(1, 9), 12);
        due("met already", y.settles(1, 5), 0);
        due("those met among them are settled", y.settles(1, 17), 1);
        due("of two rolls, not its own", Check.withRolls("a>q", "b>a", "a>b").settles(1, 5), 2);
        due("of kind 3 none", Check.withRolls("->a;a>q", "->a").settles(1, 1), 0);
        due("of kind 0 none", Check.withRolls("->q", "->a").settles(1, 1), 0);
        says("NEXT: that with the most (of several the lowest).");
        due("of several the lowest", y.next(1), 1);
        due("none settles any, the lowest", y.next(2), 0);
        due("the last left", y.next(15), 4);
        due("none left", y.next(31), NONE);
        due("the higher one with more", Check.withRolls("a>q;b>q", "->a", "->a;->b").next(1), 2);
    }

    // ---- the play

    private void play() {
        says("A PLAY is told by hand: SPEECH by SPEECH, each the next one of a ROLL.");
        CueRolls x = full("->a", "z>a");
        for (int place = 0; place < 12; place++) {
            for (int roll = 7; roll >= 0; roll--) {
                due("act(" + roll + ")", x.act(roll), 16 * roll + place);
            }
        }
        for (int roll = 0; roll < 8; roll++) {
            due("none left", x.act(roll), NONE);
        }
        due("all", x.play(NONE), 96);
        due("the first", x.play(0), 112);
        due("the last", x.play(95), 11);
        due("behind the last", x.play(96), NONE);
        says("WRONG: of its places those ahead of which there is a GAP.");
        due("a gap ahead of each", x.wrong(NONE), 96);
        due("the first", x.wrong(0), 0);
        due("the last", x.wrong(95), 95);
        due("no more", x.wrong(96), NONE);
        CueRolls y = Check.withRolls("->a;->c", "a>b");
        due("no play, no gap", y.wrong(NONE), 0);
        due("no play, no place", y.wrong(0), NONE);
        y.act(0);
        due("none and the first", y.wrong(NONE), 0);
        y.act(1);
        due("it follows", y.wrong(NONE), 0);
        y.act(0);
        due("none, but not the first", y.wrong(0), 2);
        due("no more", y.wrong(1), NONE);
        CueRolls z = Check.withRolls("a>b");
        z.act(0);
        due("a cue and the first", z.wrong(0), 0);
        due("just this", z.wrong(NONE), 1);
    }

    private void rehearsal() {
        says("at first all with no CUE there (if there are none, nothing is said)");
        due("none", Check.withRolls("a>a", "a>a;->b").rehearse(3, NONE), 0);
        due("none: no first", Check.withRolls("a>a", "a>a;->b").rehearse(3, 0), NONE);
        due("all", Check.withRolls("->z", "->z", "->z").rehearse(7, NONE), 3);
        due("the last alone", Check.withRolls("z>a", "->b").rehearse(3, 0), 16);
        says("all others (not its own ROLL) with a CUE there that ENDS it, are READY");
        due("its own is not", Check.withRolls("->a;a>b").rehearse(1, NONE), 1);
        due("one that is done is not", Check.withRolls("->a", "a>a").rehearse(3, NONE), 2);
        due("one without cue there is not", Check.withRolls("->a;->b", "a>c").rehearse(3, NONE), 2);
        due("others not among these are not", Check.withRolls("->a", "a>b").rehearse(1, NONE), 1);
        says("the lowest of those READY speaks, the others' readiness stays; it waits with its next one then.");
        CueRolls x = Check.withRolls("->a;d>b", "a>c", "a>d");
        int[] want = {0, 16, 32, 1};
        for (int place = 0; place < 4; place++) {
            due("place " + place, x.rehearse(7, place), want[place]);
        }
        says("It ends when nobody is READY, or all is said.");
        CueRolls y = full("->a", "a>a");
        due("all is said", y.rehearse(255, NONE), 96);
        for (int place = 0; place < 96; place++) {
            int pair = 32 * (place / 24);
            due("place " + place, y.rehearse(255, place), pair + place % 2 * 16 + place % 24 / 2);
        }
        due("behind the last", y.rehearse(255, 96), NONE);
        due("nobody is ready", Check.withRolls("->a;b>c", "a>c").rehearse(3, NONE), 2);
    }

    private void soonAndInside() {
        says("SOON: in how many places of the PLAY's length another SPEECH is said than in the PLAY (or none).");
        CueRolls x = full("->a", "a>a");
        due("no play", x.soon(255), 0);
        for (int i = 0; i < 12; i++) {
            x.act(0);
            x.act(1);
        }
        due("the same", x.soon(255), 0);
        due("one, then none", x.soon(1), 23);
        due("none at all", x.soon(2), 24);
        x.act(7);
        due("another at the end", x.soon(255), 1);
        due("none at the end", x.soon(3), 1);
        says("INSIDE: a CUE of two WORDS stands in a SPEECH of another ROLL, both one behind the other, not at its end: "
                + "the first WORD's place.");
        CueRolls y = Check.withRolls("p q>a;q>a;->a",
                "->p q;->p q r;->a b c d e f g h i p q r;->a b c d e f g h i j p q;->p r q r;->q p r;->p;->p q p q");
        due("two words, at its end", y.inside(0, 16), NONE);
        due("three words", y.inside(0, 17), 0);
        due("the last place there is", y.inside(0, 18), 9);
        due("at its end", y.inside(0, 19), NONE);
        due("one between", y.inside(0, 20), NONE);
        due("the other way round", y.inside(0, 21), NONE);
        due("one word", y.inside(0, 22), NONE);
        due("inside and at its end", y.inside(0, 23), 0);
        due("a cue of one word", y.inside(1, 17), NONE);
        due("no cue", y.inside(2, 17), NONE);
        due("of one roll", Check.withRolls("p q>a;->p q r").inside(0, 1), NONE);
        due("itself", Check.withRolls("p q>p q r").inside(0, 0), NONE);
        says("TEMPTED: all pairs of a CUE and a SPEECH, among some ROLLS, in which it is so.");
        due("one speech once", Check.withRolls("p q>a", "->p q p q p q r").tempted(3), 1);
        due("none among one roll", Check.withRolls("p q>p q r").tempted(1), 0);
        due("none", Check.withRolls("->a").tempted(1), 0);
        CueRolls z = new CueRolls();
        for (int roll = 0; roll < 8; roll++) {
            Check.tell(z, 0, items("p q>p q r", 12));
        }
        due("all", z.tempted(255), 96 * 84);
    }

    // ---- plots

    private void plots() {
        says("PLOTS (4 at most) are TEXTS");
        CueRolls x = new CueRolls();
        for (int plot = 0; plot < 4; plot++) {
            due("plot " + plot, Check.tell(x, 1, "a"), plot);
        }
        due("a fifth", Check.tell(x, 1, "a"), NONE);
        due("the tape stays", x.count(4), 1);
        due("four", x.count(1), 4);
        due("it is not there", x.plot(4, 0), NONE);
        says("SCENES with / between (20 at most)");
        String twenty = "a" + "/a".repeat(18) + "/b";
        faultOf(1, "", 0);
        faultOf(1, "/", 0);
        faultOf(1, "a/", 2);
        due("one", Check.withPlots("a").plot(0, 0), 1);
        due("one, no second", Check.withPlots("a").plot(0, 1), NONE);
        due("the twentieth", Check.withPlots(twenty).plot(0, 19), 2);
        due("no twenty-first", Check.withPlots(twenty).plot(0, 20), NONE);
        due("all of twenty", Check.withPlots(twenty).plot(0, NONE), 3);
        says("each 1 to 10 PARTS, letters a .. j, none twice in one.");
        due("one", Check.withPlots("j").plot(0, 0), 512);
        due("ten", Check.withPlots("jihgfedcba").plot(0, 0), 1023);
        due("full: twenty scenes of ten", fullPlot().plot(0, 19) + fullPlot().plot(0, NONE), 2046);
        for (char sign : new char[] {'`', 'k', 'A', 'J', '0', 225}) {
            faultOf(1, "" + sign, 0);
            faultOf(1, "a" + sign, 1);
        }
        faultOf(1, "aa", 1);
        faultOf(1, "a/a", NONE);
        says("Blanks may stand between all these.");
        faultOf(1, "  a  b  /  c  ", NONE);
        faultOf(1, " ".repeat(199) + "a", NONE);
        faultOf(1, "a" + " ".repeat(199), NONE);
        says("(a letter that is there already, an eleventh, are wrong at it; a twenty-first SCENE at the / ahead of it)");
        faultOf(1, "abcdefghij", NONE);
        for (char sign = 'a'; sign <= 'k'; sign++) {
            faultOf(1, "abcdefghij " + sign, 11);
        }
        faultOf(1, "abca", 3);
        faultOf(1, "c/ab  b", 6);
        faultOf(1, twenty, NONE);
        faultOf(1, twenty + "/", 39);
        faultOf(1, twenty + " / a", 40);
        faultOf(1, twenty + "/b/c", 39);
        faultOf(1, twenty + "b/", 39);
        faultOf(1, twenty + "c/", 40);
        heads(1, "a b / c/d " + "/ab/c", "/");
    }

    /** A tape of 200 bytes has no room for twenty scenes of ten parts each. */
    private static CueRolls fullPlot() {
        return Check.withPlots("abcdefgh/".repeat(18) + "abcdefghi/abcdefghij");
    }

    private void boys() {
        says("PARTS for BOYS are told as bits (none at first); the others are for MEN.");
        CueRolls x = Check.withPlots("aj");
        due("none at first", x.count(6), 0);
        due("none at first: two men", x.could(0, 0, 2, 0), 1);
        due("all", x.boys(1023), true);
        due("two boys", x.could(0, 0, 0, 2), 1);
        due("beyond", x.boys(1024), false);
        due("below", x.boys(-1), false);
        due("all stay", x.count(6), 1023);
        due("the highest", x.boys(512), true);
        due("a man and a boy", x.could(0, 0, 1, 1), 1);
        due("none", x.boys(0), true);
        due("two men again", x.could(0, 0, 1, 1), 0);
    }

    private void bars() {
        says("Two PARTS BAR one another by a CHANGE (0 .. 3), if they are for one sort and some SCENES of both are no more "
                + "than CHANGE apart");
        CueRolls x = Check.withPlots("a/b/c/d/e", "c" + "/c".repeat(15) + "/a/c/c/b");
        for (int other = 1; other < 5; other++) {
            for (int change = 0; change <= 3; change++) {
                due("scene 0 and " + other + " by " + change, x.bars(0, 0, other, change), other <= change ? 1 : 0);
                due("scene 4 and " + (4 - other), x.bars(0, 4, 4 - other, change), other <= change ? 1 : 0);
            }
        }
        due("scenes 16 and 19", x.bars(1, 0, 1, 3), 1);
        due("scenes 16 and 19 by 2", x.bars(1, 1, 0, 2), 0);
        due("a change of 4", x.bars(0, 0, 1, 4), NONE);
        due("a change of -1", x.bars(0, 0, 1, -1), NONE);
        x.boys(1);
        due("of two sorts", x.bars(0, 0, 1, 3), 0);
        x.boys(3);
        due("both for boys", x.bars(0, 0, 1, 3), 1);
        says("(one and the same SCENE: 0 apart; a PART in one SCENE is no bar to itself)");
        CueRolls y = Check.withPlots("ab", "a/a/a");
        due("one scene", y.bars(0, 0, 1, 0), 1);
        due("itself", y.bars(0, 0, 0, 0), NONE);
        for (int change = 0; change <= 3; change++) {
            due("one part needs one coat", y.cast(1, NONE, change), 1);
        }
    }

    private void coats() {
        says("CAST: a COAT (0 ..) for each PART of the PLOT, so that none that BAR one another have one, nor any of unlike "
                + "sorts: with the fewest COATS; of several that with the lower COAT where two first differ (by PARTS).");
        CueRolls x = Check.withPlots("j", "abcdefghij", "a/b/c/d/e/f/g/h/i/j", "bc/ac/ad/bd/be/ae");
        due("one part", x.cast(0, NONE, 3), 1);
        due("its coat", x.cast(0, 9, 3), 0);
        due("ten in one scene", x.cast(1, NONE, 0), 10);
        for (int part = 0; part < 10; part++) {
            due("ten: coat of " + part, x.cast(1, part, 0), part);
            due("none bars: coat of " + part, x.cast(2, part, 0), 0);
            due("a change of 3: coat of " + part, x.cast(2, part, 3), part % 4);
        }
        due("none bars", x.cast(2, NONE, 0), 1);
        due("a change of 3", x.cast(2, NONE, 3), 4);
        int[] low = {0, 0, 1, 1, 1};
        for (int part = 0; part < 5; part++) {
            due("the lower: coat of " + part, x.cast(3, part, 0), low[part]);
        }
        x.boys(512);
        due("a boy alone", x.cast(0, 9, 0), 0);
        due("a boy more", x.cast(2, NONE, 0), 2);
        due("his coat", x.cast(2, 9, 0), 1);
        x.boys(1023);
        due("boys alone", x.cast(1, NONE, 0), 10);
        says("NEED: how many COATS.");
        x.boys(0);
        due("the least", x.cast(0, NONE, 0), 1);
        due("the most", x.cast(1, NONE, 0), 10);
        due("the most for the full plot", fullPlot().cast(0, NONE, 3), 10);
        says("CROWD: the SCENE with the most PARTS (of several the lowest), and how many.");
        CueRolls y = Check.withPlots("a/b/c", "a/bc/de", "a" + "/a".repeat(18) + "/ab", "abcdefghij/abcdefghij");
        int[] scenes = {0, 1, 19, 0};
        int[] many = {1, 2, 2, 10};
        for (int plot = 0; plot < 4; plot++) {
            due("scene of " + plot, y.crowd(plot, 0), scenes[plot]);
            due("how many of " + plot, y.crowd(plot, 1), many[plot]);
        }
        says("COULD: with so many MEN and so many BOYS (0 .. 10 each) whether all can be.");
        due("ten men for ten", x.could(1, 0, 10, 0), 1);
        due("nine men for ten", x.could(1, 0, 9, 10), 0);
        due("nobody", x.could(0, 0, 0, 0), 0);
        x.boys(1023);
        due("ten boys for ten", x.could(1, 0, 0, 10), 1);
        due("nine boys for ten", x.could(1, 0, 10, 9), 0);
        for (int crew : new int[] {-1, 11, Integer.MIN_VALUE, Integer.MAX_VALUE}) {
            due(crew + " men", x.could(1, 0, crew, 10), NONE);
            due(crew + " boys", x.could(1, 0, 0, crew), NONE);
        }
    }

    // ---- habits

    private void habits() {
        says("HABITS (4 at most) are TEXTS");
        CueRolls x = Check.withRolls("->a");
        for (int habit = 0; habit < 4; habit++) {
            due("habit " + habit, Check.tell(x, 2, "y:" + habit), habit);
        }
        due("a fifth", Check.tell(x, 2, "y:4"), NONE);
        due("the tape stays", x.count(4), 3);
        due("four", x.count(2), 4);
        due("the fourth", x.worth(0, 3), 3);
        due("no fifth", x.worth(0, 4), NONE);
        due("none can have it", x.habit(0, 4), false);
        says("CLAUSES with ; between, one at least");
        faultOf(2, "", 0);
        faultOf(2, ";", 0);
        faultOf(2, "y:1;", 4);
        faultOf(2, "y:1;;", 4);
        faultOf(2, "y:1" + ";y:1".repeat(49), NONE);
        faultOf(2, "y:1" + ";y:1".repeat(49) + ";", 200);
        worthOf("a", "y:1=2?1" + ";y:1=2?1".repeat(22) + ";y:7", 7);
        says("ATOM: a number (1 to 4 digits), a letter (n v f l w), [ SUM ].");
        faultOf(2, "y:0", NONE);
        faultOf(2, "y:9999", NONE);
        faultOf(2, "y:0000", NONE);
        faultOf(2, "y:", 2);
        faultOf(2, "y:[]", 3);
        for (char sign : "abcdegijkmopqrstuxyzN/:<=>?)]&|+-*.".toCharArray()) {
            faultOf(2, "y:" + sign, 2);
        }
        says("(A CLAUSE that goes on with ! or ( behind its : has a CONDITION.)");
        faultOf(2, "y:(n)", 4);
        faultOf(2, "y:(n=1)", 7);
        faultOf(2, "y:(n+1)*2", 6);
        faultOf(2, "y:!n", 4);
        faultOf(2, "y:!n=1;", 6);
        faultOf(2, "y:(n=1)?n", NONE);
        faultOf(2, "y:!n=1?n", NONE);
        faultOf(2, "y:n=1?!n", 6);
        faultOf(2, "y:n=1?(n)", 6);
        faultOf(2, "y:n=(1)?n", 4);
        says("Blanks may stand between all these, not within numbers");
        faultOf(2, " y : ! ( n = 1 | [ v + 2 ] < 3 & 4 > 5 ) ? 6 * 7 / 8 - 9 ; y : 12 ", NONE);
        faultOf(2, "y:1 2", 4);
        faultOf(2, "y:12  34", 6);
        faultOf(2, "y:1" + " ".repeat(197), NONE);
        heads(2, "y:!(n=1|[v+2]<3&4>5)?6*7/8-9;y:12", ":!(=|[+<&>?*/-;");
        heads(2, "y : w > l ? f ; y : [ [ n ] ]", ":>?;[");
    }

    private void nests() {
        says("at most six of ( [ ! within one another.");
        for (String open : new String[] {"(", "[", "!"}) {
            String close = open.equals("(") ? ")" : open.equals("[") ? "]" : "";
            String inner = open.equals("[") ? "n" : "n=1";
            String rest = open.equals("[") ? "" : "?2";
            for (int depth = 1; depth <= 8; depth++) {
                String text = "y:" + open.repeat(depth) + inner + close.repeat(depth) + rest;
                faultOf(2, text, depth <= 6 ? NONE : 8);
            }
        }
        faultOf(2, "y:!(!(!(n=1)))?1", NONE);
        faultOf(2, "y:!(!(!(!n=1)))?1", 8);
        faultOf(2, "y:!(!(!([n]=1)))?1", 8);
        faultOf(2, "y:!(!(!n=[1]))?1", NONE);
        faultOf(2, "y:((((([n]=1)))))?1", NONE);
        faultOf(2, "y:((((([[n]]=1)))))?1", 8);
        faultOf(2, "y:((((((n=1))))))&((((((n=1))))))?[[[[[[1]]]]]]", NONE);
        faultOf(2, "y:[[[[[[1]]]]]]+[[[[[[1]]]]]]*[[[[[[1]]]]]]=[[[[[[1]]]]]]?1;y:[[[[[[1]]]]]]", NONE);
        faultOf(2, "y:!!!!!!n=1|!!!!!!n=1?1", NONE);
        says("a fifth digit, a seventh of these are such.");
        faultOf(2, "y:12345", 6);
        faultOf(2, "y:00000", 6);
        faultOf(2, "y:123456789", 6);
        faultOf(2, "y:1=12345?1", 8);
        faultOf(2, "y:[[[[[[[", 8);
        faultOf(2, "y:(((((((", 8);
        faultOf(2, "y:!!!!!!!", 8);
        faultOf(2, "y:((([[[[", 8);
        faultOf(2, "y:(!(!(![", 8);
    }

    /** The worth of a speech by one habit. */
    private void worthOf(String speech, String habit, int want) {
        CueRolls x = Check.withRolls("->" + speech);
        Check.tell(x, 2, habit);
        due("worth of '" + speech + "' by '" + habit + "'", x.worth(0, 0), want);
    }

    private void sums() {
        says("Behind each sign numbers are within -1,000,000 .. 1,000,000");
        worthOf("a", "y:1000*1000-9999*100-100+1", 1);
        worthOf("a", "y:1000*1000+1-9999*100-100", 0);
        worthOf("a", "y:1000*1000-1-9999*100", 99);
        worthOf("a", "y:1000*1001-9999*100", 100);
        worthOf("a", "y:9999*9999*9999*9999/1000", 100);
        worthOf("a", "y:9999*9999*9999*9999=1000*1000?1", 1);
        worthOf("a", "y:[0-9999]*9999*9999=0-1000*1000?1", 1);
        worthOf("a", "y:[0-9999]*9999*[0-9999]=1000*1000?1", 1);
        worthOf("a", "y:0-1000*1000-1=0-1000*1000?1", 1);
        worthOf("a", "y:0-1000*1000-1+1<0-999*1000-998?1", 1);
        worthOf("a", "y:0-1000*1000+1=0-1000*1000?1;y:2", 2);
        worthOf("a", "y:1000*1000+1000*1000-1000*1000=0?1", 1);
        worthOf("a", "y:0-1000*1000-1000*1000+1000*1000=0?1", 1);
        says("/ cuts towards 0, by 0 gives 0.");
        worthOf("a", "y:7/2", 3);
        worthOf("a", "y:[0-7]/2=0-3?1", 1);
        worthOf("a", "y:7/[0-2]=0-3?1", 1);
        worthOf("a", "y:[0-7]/[0-2]=3?1", 1);
        worthOf("a", "y:1/2", 0);
        worthOf("a", "y:[0-1]/2=0?1", 1);
        worthOf("a", "y:5/0", 0);
        worthOf("a", "y:[0-5]/0+3", 3);
        worthOf("a", "y:0/0+4", 4);
        worthOf("a", "y:5/w+6", 6);
        worthOf("a", "y:8/0*9+2", 2);
        worthOf("a", "y:1000*1000/[0-1]=0-1000*1000?1", 1);
        says("WORTH: the SUM of the first CLAUSE whose CONDITION holds (or has none), 0 without.");
        worthOf("a", "y:1=2?9", 0);
        worthOf("a", "y:1=2?9;y:1>2?8;y:2<1?7", 0);
        worthOf("a", "y:1=1?9;y:8", 9);
        worthOf("a", "y:1=2?9;y:8;y:7", 8);
        worthOf("a", "y:1=2?9;y:1=1?0;y:7", 0);
    }

    private void letters() {
        says("n its letters, v those of a e i o u, f its first, l its last (1 for a, .. 26), w how many letters the WORD "
                + "ahead of it has (0 without).");
        worthOf("a", "y:n", 1);
        worthOf("abcdefgh", "y:n", 8);
        worthOf("bcdfghjk", "y:v", 0);
        worthOf("lmnpqrst", "y:v", 0);
        worthOf("vwxyz", "y:v", 0);
        worthOf("aeiouaei", "y:v", 8);
        worthOf("az", "y:f", 1);
        worthOf("za", "y:f", 26);
        worthOf("az", "y:l", 26);
        worthOf("zzzzzzza", "y:l", 1);
        worthOf("zaaaaaaa", "y:f", 26);
        worthOf("q", "y:f", 17);
        worthOf("q", "y:l", 17);
        worthOf("a", "y:w", 0);
        worthOf("b a", "y:w", 1);
        worthOf("abcdefgh a", "y:w", 8);
        worthOf("abc ab abcdefgh", "y:w", 2);
        CueRolls x = Check.withRolls("->q", "a>b;abcdefgh z>b");
        Check.tell(x, 2, "y:w*10+l");
        x.habit(0, 0);
        due("a cue of one word", x.likely(16, 0), 1);
        due("a cue of two", x.likely(17, 0), 100);
        says("HABIT of a ROLL: WORTH of all its SPEECHES together (each within 0 .. 100)");
        worthOf("a", "y:100", 100);
        worthOf("a", "y:101", 100);
        worthOf("a", "y:99", 99);
        worthOf("a", "y:0", 0);
        worthOf("a", "y:0-1", 0);
        worthOf("a", "y:9999*9999", 100);
        CueRolls y = Check.withRolls("->a;->b;->c", items("->zz", 12));
        Check.tell(y, 2, "y:f*100-150");
        due("each by itself", y.worth(0, 0), 50 + 100);
        due("twelve of 100", y.worth(1, 0), 1200);
        says("A ROLL may have one of them (none at first).");
        CueRolls z = Check.withRolls("->a", "b>c");
        Check.tell(z, 2, "y:1");
        Check.tell(z, 2, "y:2");
        due("none at first", z.likely(16, 0), NONE);
        due("one", z.habit(0, 0), true);
        due("by this", z.likely(16, 0), 1);
        due("another", z.habit(0, 1), true);
        due("by that", z.likely(16, 0), 2);
        due("none", z.habit(0, NONE), true);
        due("none again", z.likely(16, 0), NONE);
        says("LIKELY of a CUE by a ROLL, not its own, that has a HABIT: WORTH of the CUE by that, within 0 .. 100.");
        String[] texts = {"y:0-1", "y:100", "y:101", "y:9999*9999"};
        int[] want = {0, 100, 100, 100};
        CueRolls q = Check.withRolls("->a", "b>c");
        for (int i = 0; i < 4; i++) {
            Check.tell(q, 2, texts[i]);
            q.habit(0, i);
            q.habit(1, i);
            due("by " + texts[i], q.likely(16, 0), want[i]);
            due("by its own", q.likely(16, 1), NONE);
        }
    }

    private void kept() {
        says("KEPT: how many ROLLS, SPEECHES of the PLAY there are; BACK: later ones go.");
        CueRolls x = new CueRolls();
        due("nothing kept, nothing there", x.back(), 0);
        due("keep() of nothing", x.keep(), 0);
        Check.tell(x, 0, "->a;->b");
        x.act(0);
        due("nothing was there", x.back(), 0);
        due("no rolls", x.count(0), 0);
        due("no speeches", x.count(3), 0);
        CueRolls y = full("->a", "a>a");
        for (int i = 0; i < 96; i++) {
            y.act(i / 12);
        }
        due("keep() of all", y.keep(), 104);
        due("none is later", y.back(), 104);
        due("the last is there", y.play(95), 123);
        CueRolls z = Check.withRolls("->a;->b");
        z.act(0);
        z.keep();
        z.act(0);
        due("no later roll, a later speech", z.back(), 2);
        due("its next again", z.act(0), 1);
        z.keep();
        Check.tell(z, 0, "->q");
        due("a later roll, no later speech", z.back(), 3);
        due("one roll", z.count(0), 1);
        due("its speeches", z.count(3), 2);
        due("both speeches", z.play(NONE), 2);
        due("the next has the number that went", Check.tell(z, 0, "->r"), 1);
    }

    private void all() {
        words();
        rolls();
        items();
        blanks();
        faults();
        numbers();
        endings();
        farness();
        bits();
        kinds();
        orders();
        told();
        lengths();
        joined();
        play();
        rehearsal();
        soonAndInside();
        plots();
        boys();
        bars();
        coats();
        habits();
        nests();
        sums();
        letters();
        kept();
        says("");
    }

    public static void main(String[] args) {
        Check check = new Check("TermsTest");
        new TermsTest(check).all();
        check.close();
    }
}
