/** For each promise of the document what it asks of ordinary inputs, of the edges it names, of wrong inputs. */
public final class PromiseTest {
    private static final int LEAST = Integer.MIN_VALUE;
    private static final int MOST = Integer.MAX_VALUE;
    private static final String LORD = "- > good night my lord ; come in > i go";
    private static final String WELCOME = "my lord>come in;i go>good night";
    private static final String SWEET = "good night > sweet prince";
    private final Check check;

    private PromiseTest(Check check) {
        this.check = check;
    }

    private void due(String call, long got, long want) {
        check.due(call, got, want);
    }

    private void due(String call, boolean got, boolean want) {
        check.due(call, got, want);
    }

    private static CueRolls three() {
        return Check.withRolls(LORD, WELCOME, SWEET);
    }

    private void newObject() {
        due("NONE", CueRolls.NONE, -1);
        due("HIDDEN", CueRolls.HIDDEN, -2);
        CueRolls x = new CueRolls();
        for (int what = 0; what < 7; what++) {
            due("1: count(" + what + ") of a new object", x.count(what), what == 5 ? 1 : 0);
        }
        due("1: play(-1)", x.play(-1), 0);
        due("1: many(0)", x.many(0), -1);
        due("1: crowd(0, 0)", x.crowd(0, 0), -1);
        due("1: back()", x.back(), 0);
    }

    private void feed() {
        CueRolls x = new CueRolls();
        due("2: feed of 0", x.feed(0, 0, 0, 0, 0), 0);
        due("2: feed, the highest byte first", x.feed(0x2d003e00, 0, 0x61, 0, 0), 3);
        due("2: the tape is ->a", x.text(0), 0);
        due("2: feed of twenty", x.feed(-1, -1, -1, -1, -1), 20);
        due("2: fault of byte 255", x.fault(0), 0);
        for (int i = 2; i <= 9; i++) {
            due("2: feed", x.feed(0x20202020, 0x20202020, 0x20202020, 0x20202020, 0x20202020), 20 * i);
        }
        due("2: 199 bytes", x.feed(0x20202020, 0x20202020, 0x20202020, 0x20202020, 0x00202020), 199);
        due("2: more than 200", x.feed(0x20000020, 0, 0, 0, 0), -1);
        due("2: refused, it has as many", x.count(4), 199);
        due("2: 200 bytes", x.feed(0, 0, 0x00002000, 0, 0), 200);
        due("2: none more", x.feed(0, 0, 0, 0, 1), -1);
        due("2: nor of the first number", x.feed(1 << 24, 0, 0, 0, 0), -1);
        due("2: nor of the second", x.feed(0, 1 << 16, 0, 0, 0), -1);
        due("2: nor of the third", x.feed(0, 0, 1 << 8, 0, 0), -1);
        due("2: nor of the fourth", x.feed(0, 0, 0, LEAST, 0), -1);
        due("2: nothing more is fine", x.feed(0, 0, 0, 0, 0), 200);
    }

    private void end() {
        CueRolls x = new CueRolls();
        Check.feed(x, "->ab c");
        due("3: end(-1)", x.end(-1), false);
        due("3: end(7)", x.end(7), false);
        due("3: end(MIN)", x.end(LEAST), false);
        due("3: end(6)", x.end(6), true);
        due("3: end(4)", x.end(4), true);
        due("3: end(5) behind the end", x.end(5), false);
        due("3: the tape", x.count(4), 4);
        due("3: ->ab", x.text(0), 0);
        due("3: one word", x.speech(0, 0), 1);
        due("3: end(0)", x.end(0), true);
        due("3: end(1)", x.end(1), false);
    }

    private void faultOf(int sort, String text, int want) {
        due("4: fault(" + sort + ") of '" + text + "'", Check.fault(sort, text), want);
    }

    private void faultOfRolls() {
        faultOf(0, "", 0);
        faultOf(0, "   ", 3);
        faultOf(0, "- > a", -1);
        faultOf(0, "  -  >  a  ;  b  c  >  d  e  ", -1);
        faultOf(0, "->a;b>c", -1);
        faultOf(0, "->", 2);
        faultOf(0, "-> ", 3);
        faultOf(0, "-", 1);
        faultOf(0, ">a", 0);
        faultOf(0, "--", 1);
        faultOf(0, "- a>b", 2);
        faultOf(0, "a - > b", 2);
        faultOf(0, "a b c>d", 4);
        faultOf(0, "a b  ", 5);
        faultOf(0, "abcdefgh ijklmnop > q", -1);
        faultOf(0, "abcdefghi > q", 8);
        faultOf(0, "->abcdefgh", -1);
        faultOf(0, "->abcdefghi", 10);
        faultOf(0, "->a b c d e f g h i j k l", -1);
        faultOf(0, "->a b c d e f g h i j k l  ;", 28);
        faultOf(0, "->a b c d e f g h i j k l  m", 27);
        faultOf(0, "->a;", 4);
        faultOf(0, "->a;;", 4);
        faultOf(0, ";", 0);
        faultOf(0, "->a>b", 3);
        faultOf(0, "->A", 2);
        faultOf(0, "->a\u00e9", 3);
        faultOf(0, "->a\n", 3);
        faultOf(0, "->a1", 3);
        String twelve = "->a" + ";->a".repeat(11);
        faultOf(0, twelve, -1);
        faultOf(0, twelve + " ;->a", 48);
        faultOf(0, twelve + ";", 47);
    }

    private void faultOfPlots() {
        faultOf(1, "", 0);
        faultOf(1, " ", 1);
        faultOf(1, "a", -1);
        faultOf(1, " a b / c ", -1);
        faultOf(1, "abcdefghij", -1);
        faultOf(1, "abcdefghijk", 10);
        faultOf(1, "abcdefghija", 10);
        faultOf(1, "k", 0);
        faultOf(1, "aba", 2);
        faultOf(1, "ab/ba/a b  a", 11);
        faultOf(1, "/a", 0);
        faultOf(1, "a//b", 2);
        faultOf(1, "a/", 2);
        faultOf(1, "a,b", 1);
        String twenty = "a" + "/a".repeat(19);
        faultOf(1, twenty, -1);
        faultOf(1, twenty + "/a", 39);
        faultOf(1, twenty + " /", 40);
    }

    private void faultOfHabits() {
        faultOf(2, "", 0);
        faultOf(2, "y", 1);
        faultOf(2, "y:", 2);
        faultOf(2, "y:n", -1);
        faultOf(2, " y : n = 1 ? v + 2 ; y : 3 ", -1);
        faultOf(2, "y:n;", 4);
        faultOf(2, "y:n;n", 4);
        faultOf(2, "x:n", 0);
        faultOf(2, "yn", 1);
        faultOf(2, "y:q", 2);
        faultOf(2, "y:y", 2);
        faultOf(2, "y:-1", 2);
        faultOf(2, "y:1234", -1);
        faultOf(2, "y:12345", 6);
        faultOf(2, "y:1 2", 4);
        faultOf(2, "y:0000", -1);
        faultOf(2, "y:nn", 3);
        faultOf(2, "y:n+", 4);
        faultOf(2, "y:n+*", 4);
        faultOf(2, "y:n?1", 3);
        faultOf(2, "y:n=1", 5);
        faultOf(2, "y:n=1;y:1", 5);
        faultOf(2, "y:n=1=2?1", 5);
        faultOf(2, "y:n=1&", 6);
        faultOf(2, "y:n=1&v?1", 7);
        faultOf(2, "y:n=1|v<2&l>3?1", -1);
        faultOf(2, "y:n=1?v=2", 7);
        faultOf(2, "y:n=1?v?2", 7);
        faultOf(2, "y:!n", 4);
        faultOf(2, "y:!n=1", 6);
        faultOf(2, "y:!n=1?2", -1);
        faultOf(2, "y:(n)=1?2", 4);
        faultOf(2, "y:(n=1)?2", -1);
        faultOf(2, "y:(n=1)+2", 7);
        faultOf(2, "y:(n=1)", 7);
        faultOf(2, "y:(n=1?2", 6);
        faultOf(2, "y:n=1)?2", 5);
        faultOf(2, "y:[n=1]?2", 4);
        faultOf(2, "y:[n+1]*2", -1);
        faultOf(2, "y:[n+1)*2", 6);
        faultOf(2, "y:[n+1]=2?[3]", -1);
        faultOf(2, "y:[]", 3);
        faultOf(2, "y:n=(n=1)?1", 4);
        faultOf(2, "y:n=!n=1?1", 4);
        faultOf(2, "y:[[[[[[n]]]]]]", -1);
        faultOf(2, "y:[[[[[[[n]]]]]]]", 8);
        faultOf(2, "y:!!!!!!n=1?2", -1);
        faultOf(2, "y:!!!!!!!n=1?2", 8);
        faultOf(2, "y:!(!(!([n]=1)))?[[[[[[2]]]]]]", 8);
        faultOf(2, "y:!(!(!(n=1)))?[[[[[[2]]]]]]", -1);
        faultOf(2, "y:!!!!!!n=[1]?2", 10);
        faultOf(2, "y:!!!!!n=[1]?2", -1);
        faultOf(2, "y:!!!!!!n=1&[1]=1?2", -1);
        faultOf(2, "y:!!!!!!n=1&!!!!!!!v=1?2", 18);
        faultOf(2, "y:n=1&!!!!!!v=1?2", -1);
        faultOf(2, "y:n=1&!!!!!!!v=1?2", 12);
        faultOf(2, "y:n=1|((((((v=1))))))?2", -1);
        faultOf(2, "y:n=1|(((((((v=1)))))))?2", 12);
        faultOf(2, "y:((((((n=1))))))?2", -1);
        faultOf(2, "y:(((((((n=1)))))))?2", 8);
    }

    private void faultOfSorts() {
        CueRolls x = new CueRolls();
        Check.tape(x, "a");
        due("4: fault(-1)", x.fault(-1), -2);
        due("4: fault(3)", x.fault(3), -2);
        due("4: fault(MIN)", x.fault(LEAST), -2);
        due("4: fault(1) of a", x.fault(1), -1);
        due("4: the tape stays", x.count(4), 1);
    }

    private void text() {
        CueRolls x = new CueRolls();
        Check.tape(x, "->a");
        due("5: text(1) of a roll", x.text(1), -1);
        due("5: no such sort", x.text(3), -1);
        due("5: no such sort", x.text(-1), -1);
        due("5: refused, the tape stays", x.count(4), 3);
        due("5: text(0)", x.text(0), 0);
        due("5: the tape is empty", x.count(4), 0);
        due("5: text(0) of nothing", x.text(0), -1);
        for (int i = 1; i < 8; i++) {
            due("5: roll", Check.tell(x, 0, "->a"), i);
        }
        due("5: eight rolls at most", Check.tell(x, 0, "->a"), -1);
        due("5: refused, the tape stays", x.count(4), 3);
        for (int i = 0; i < 4; i++) {
            due("5: plot", Check.tell(x, 1, "a"), i);
            due("5: habit", Check.tell(x, 2, "y:1"), i);
        }
        due("5: four plots at most", Check.tell(x, 1, "a"), -1);
        due("5: four habits at most", Check.tell(x, 2, "y:1"), -1);
        due("5: counts", x.count(0) * 100 + x.count(1) * 10 + x.count(2), 844);
    }

    private void speech() {
        CueRolls x = Check.withRolls("- > a bb ccc ; d ee > ffff ; g > abcdefgh");
        due("6: words", x.speech(0, 0), 3);
        due("6: words of no cue", x.speech(0, 1), 0);
        due("6: letters of the last word", x.speech(0, 2), 3);
        due("6: one word", x.speech(1, 0), 1);
        due("6: words of a cue", x.speech(1, 1), 2);
        due("6: four letters", x.speech(1, 2), 4);
        due("6: words of a cue", x.speech(2, 1), 1);
        due("6: eight letters", x.speech(2, 2), 8);
        for (int what : new int[] {-1, 3, LEAST, MOST}) {
            check.throwsNoSuch("6: speech(0, " + what + ")", x, 0, what);
        }
        for (int speech : new int[] {-1, 3, 15, 16, 128, LEAST, MOST}) {
            check.throwsNoSuch("6: speech(" + speech + ", 0)", x, speech, 0);
        }
    }

    private void many() {
        CueRolls x = Check.withRolls(LORD, SWEET, "->a" + ";->a".repeat(11));
        due("7: many(0)", x.many(0), 2);
        due("7: many(1)", x.many(1), 1);
        due("7: many(2)", x.many(2), 12);
        due("7: many(3)", x.many(3), -1);
        due("7: many(-1)", x.many(-1), -1);
        due("7: many(MIN)", x.many(LEAST), -1);
        due("7: many(MAX)", x.many(MOST), -1);
    }

    private void ends() {
        CueRolls x = Check.withRolls("->a b;b>c b;a b>b;c b>d;a c>a c");
        due("8: one word", x.ends(1, 0), 1);
        due("8: itself", x.ends(1, 1), 1);
        due("8: two words", x.ends(2, 0), 1);
        due("8: two words, another ahead", x.ends(2, 1), 0);
        due("8: more words than the speech has", x.ends(2, 2), 0);
        due("8: not at the end", x.ends(1, 4), 0);
        due("8: itself, two words", x.ends(4, 4), 1);
        due("8: no cue", x.ends(0, 0), 0);
        due("8: no such one", x.ends(0, 5), -1);
        due("8: no such one", x.ends(5, 0), -1);
        due("8: no such one", x.ends(-1, 0), -1);
        due("8: no such one", x.ends(0, 16), -1);
        due("8: no such one", x.ends(LEAST, MOST), -1);
    }

    private void far() {
        CueRolls x = Check.withRolls("->my lord;my lord>good night my lord;lard>a b c;a b>b;abcdefgh ijklmnop>z");
        due("9: the same", x.far(1, 0), 0);
        due("9: the last words alone", x.far(1, 1), 0);
        due("9: one changed", x.far(2, 0), 1);
        due("9: put in and taken out", x.far(2, 2), 4);
        due("9: two words from two", x.far(3, 2), 2);
        due("9: a speech with fewer words", x.far(3, 3), 2);
        due("9: my lord from z", x.far(1, 4), 7);
        due("9: the longest from z", x.far(4, 4), 17);
        due("9: the longest from my lord", x.far(4, 0), 15);
        due("9: none alike", Check.withRolls("z>abc").far(0, 0), 3);
        CueRolls y = Check.withRolls("b c>x;->bac;->b;->c b c");
        due("9: the blank is one", y.far(0, 1), 1);
        due("9: the blank and a letter", y.far(0, 2), 2);
        due("9: the last two words", y.far(0, 3), 0);
        due("9: no cue", x.far(0, 1), -1);
        due("9: no such one", x.far(1, 5), -1);
        due("9: no such one", x.far(5, 1), -1);
        due("9: no such one", x.far(-1, -1), -1);
    }

    private void limit() {
        CueRolls x = Check.withRolls("->abcd", "abzz>a");
        due("10: limit 1 at first", x.kind(16, 3), 5);
        due("10: limit(2)", x.limit(2), true);
        due("10: two letters", x.kind(16, 3), 4);
        due("10: limit(9)", x.limit(9), false);
        due("10: limit(-1)", x.limit(-1), false);
        due("10: limit(MAX)", x.limit(MOST), false);
        due("10: the limit stays", x.count(5), 2);
        due("10: limit(8)", x.limit(8), true);
        due("10: limit(0)", x.limit(0), true);
        due("10: none at all", x.kind(16, 3), 5);
    }

    private void kind() {
        CueRolls x = Check.withRolls("->a b;b>c;c>d", "a b>c;c>b;d>x yy", "x y>c;qqq>r");
        due("11: nothing", x.kind(0, 1), 0);
        due("11: met", x.kind(16, 7), 1);
        due("11: double", x.kind(17, 7), 2);
        due("11: met among two", x.kind(17, 3), 1);
        due("11: its own, but met", x.kind(1, 3), 1);
        due("11: its own", x.kind(1, 1), 3);
        due("11: its own ahead of it", x.kind(2, 1), 3);
        due("11: not its own behind it", Check.withRolls("->a;b>c;d>b").kind(1, 1), 5);
        due("11: not itself", Check.withRolls("a>a").kind(0, 1), 5);
        due("11: slipped", x.kind(32, 6), 4);
        due("11: lost without those", x.kind(32, 5), 5);
        due("11: lost", x.kind(33, 7), 5);
        due("11: not among them", x.kind(16, 5), -1);
        due("11: no such rolls", x.kind(16, 15), -1);
        due("11: no rolls", x.kind(16, 0), -1);
        due("11: no such rolls", x.kind(16, LEAST | 7), -1);
        due("11: no such speech", x.kind(3, 7), -1);
        due("11: no such speech", x.kind(-16, 7), -1);
        CueRolls own = Check.withRolls("->ab;ab>c", "->aa");
        due("11: its own is ahead of slipped", own.kind(1, 3), 3);
        CueRolls later = Check.withRolls("->zzzz", "abc>q;->abd");
        due("11: slipped only by others", later.kind(16, 3), 5);
    }

    private void kinds() {
        CueRolls x = three();
        due("12: nothing", x.kinds(3, 0), 1);
        due("12: met", x.kinds(3, 1), 3);
        due("12: met among all", x.kinds(7, 1), 4);
        due("12: lost", x.kinds(1, 5), 1);
        due("12: none double", x.kinds(7, 2), 0);
        due("12: none own", x.kinds(7, 3), 0);
        due("12: no such kind", x.kinds(7, -1), -1);
        due("12: no such kind", x.kinds(7, 6), -1);
        due("12: no rolls", x.kinds(0, 1), -1);
        due("12: no such rolls", x.kinds(8, 1), -1);
        due("12: no such rolls", x.kinds(-1, 1), -1);
    }

    private void nearest() {
        CueRolls x = Check.withRolls("->lord;lard>ward;z>q", "lord>a lard;ward>x ward", "abc>zzz");
        due("13: the least far", x.nearest(1, 3), 16);
        due("13: of several the lowest", x.nearest(1, 5), 32);
        due("13: not of its own roll", x.nearest(17, 3), 1);
        due("13: the same", x.nearest(16, 3), 0);
        due("13: of several the lowest", x.nearest(32, 7), 1);
        due("13: not of its own roll", Check.withRolls("->zzzz", "b>b").nearest(16, 3), 0);
        due("13: no cue", x.nearest(0, 3), -1);
        due("13: no others", x.nearest(1, 1), -1);
        due("13: not among them", x.nearest(1, 6), -1);
        due("13: no such rolls", x.nearest(1, 9), -1);
        due("13: no rolls", x.nearest(1, 0), -1);
        due("13: no such speech", x.nearest(18, 7), -1);
        due("13: no such speech", x.nearest(-1, 7), -1);
    }

    private void least() {
        CueRolls x = three();
        due("14: none", x.least(3), 0);
        due("14: one alone, its second has none ahead", x.least(1), 1);
        due("14: the first has a cue", x.least(2), 2);
        due("14: three", x.least(7), 0);
        due("14: no rolls", x.least(0), -1);
        due("14: no such rolls", x.least(8), -1);
        due("14: no such rolls", x.least(-1), -1);
        due("14: two without cue, one is behind", Check.withRolls("->a", "->b").least(3), 1);
        due("14: of its own roll it does not follow", Check.withRolls("->a;a>b").least(1), 1);
        CueRolls y = Check.withRolls("->a;b>a", "a>b");
        due("14: both", y.least(3), 0);
        due("14: then one", y.least(1), 1);
        due("14: then both again", y.least(3), 0);
        due("15: then both again", y.orders(3), 1);
    }

    private void toldOnly() {
        String ten = "->a" + ";->a".repeat(9);
        CueRolls x = Check.withRolls(ten, ten, "->a");
        due("14: 20 speeches", x.least(3), 19);
        due("14: 21 speeches", x.least(7), -1);
        due("15: 21 speeches", x.orders(7), -1);
        due("16: 21 speeches", x.first(7, 0), -1);
        due("17: 21 speeches", x.sure(7, 0, 16), -2);
        due("15: 20 over 10", x.orders(3), 184756);
        String two = "->a;->a";
        String three = "->a;->a;->a";
        CueRolls y = Check.withRolls(two, two, two, two, three, three, three, "->a");
        due("14: a product of 10,368", y.least(255), 17);
        due("15: 18! over 2!2!2!2!3!3!3!", y.orders(255), 6402373705728000L / (16 * 216));
        y.keep();
        CueRolls z = Check.withRolls(two, two, two, two, two, three, three, three);
        due("14: a product of 15,552", z.least(255), 18);
        due("15: 19! over 2!2!2!2!2!3!3!3!", z.orders(255), 121645100408832000L / (32 * 216));
        due("17: one ahead of another of its roll", z.sure(255, 0, 1), -1);
        due("17: never one behind", z.sure(255, 1, 0), 0);
        CueRolls w = Check.withRolls(two, two, two, two, three, three, three, three);
        due("14: a product of 20,736", w.least(255), -1);
        due("17: a product of 20,736", w.sure(255, 0, 16), -2);
        due("14: without one", w.least(127), 16);
        due("14: told, then not told", w.least(255), -1);
        due("14: then others", w.least(1), 1);
        String five = "->a;->a;->a;->a";
        CueRolls v = Check.withRolls(five, five, five, five, five);
        due("14: five times five", v.least(31), 19);
        due("15: 20! over 4! to the fifth", v.orders(31), 2432902008176640000L / 7962624);
    }

    private void orders() {
        CueRolls x = three();
        due("15: one", x.orders(3), 1);
        due("15: one alone", x.orders(1), 1);
        due("15: no such rolls", x.orders(8), -1);
        due("15: no rolls", x.orders(0), -1);
        due("15: a double cue behind either", Check.withRolls("->a", "a>b", "->a").orders(7), 4);
        due("14: a double cue behind either", Check.withRolls("->a", "a>b", "->a").least(7), 1);
        due("15: either first", Check.withRolls("->a", "->b").orders(3), 2);
        due("15: three in any order", Check.withRolls("->a", "->b", "->c").orders(7), 6);
        due("15: one pair stays", Check.withRolls("->a", "a>b", "z>c").orders(7), 1);
        due("15: the pair first or last", Check.withRolls("->a", "a>b", "->c").orders(7), 2);
        CueRolls y = Check.withRolls("->a");
        due("15: first", y.orders(1), 1);
        Check.tell(y, 0, "->a");
        due("15: another roll", y.orders(3), 2);
        y.back();
        due("15: gone", y.orders(1), -1);
        Check.tell(y, 0, "->a;->b");
        Check.tell(y, 0, "a>b");
        due("15: other rolls by the same numbers", y.orders(3), 1);
        due("14: other rolls by the same numbers", y.least(3), 1);
    }

    private void first() {
        CueRolls x = three();
        int[] want = {0, 16, 1, 17, 32};
        for (int place = 0; place < 5; place++) {
            due("16: first(7, " + place + ")", x.first(7, place), want[place]);
        }
        due("16: place 5", x.first(7, 5), -1);
        due("16: place -1", x.first(7, -1), -1);
        due("16: place MAX", x.first(7, MOST), -1);
        due("16: no such rolls", x.first(8, 0), -1);
        due("16: no rolls", x.first(0, 0), -1);
        CueRolls y = Check.withRolls("x>a", "->b", "->c");
        due("16: the lower roll of those without gap", y.first(7, 0), 16);
        due("16: then the lowest", y.first(7, 1), 0);
        due("16: then the last", y.first(7, 2), 32);
        due("16: some alone", y.first(5, 0), 32);
    }

    private void sure() {
        CueRolls x = three();
        due("17: in all", x.sure(3, 0, 16), 1);
        due("17: in none", x.sure(3, 16, 0), 0);
        due("17: in none", x.sure(3, 0, 1), 0);
        due("17: one speech", x.sure(3, 0, 0), -2);
        due("17: not of these", x.sure(1, 0, 16), -2);
        due("17: not of these", x.sure(1, 16, 0), -2);
        due("17: no such one", x.sure(3, 0, 2), -2);
        due("17: no such one", x.sure(3, -1, 0), -2);
        due("17: no such rolls", x.sure(8, 0, 16), -2);
        due("17: no rolls", x.sure(0, 0, 16), -2);
        CueRolls y = Check.withRolls("->a", "->b", "a>c");
        due("17: joined by a cue, two orders", y.orders(7), 2);
        due("17: in all", y.sure(7, 0, 32), 1);
        due("17: open", y.sure(7, 16, 0), -1);
        due("17: open", y.sure(7, 32, 16), -1);
        due("17: in none", y.sure(7, 0, 16), 0);
        CueRolls z = Check.withRolls("z>a", "z>b", "z>c;z>d");
        due("17: any order", z.orders(7), 12);
        due("17: any order, open", z.sure(7, 32, 33), -1);
        CueRolls w = Check.withRolls("z>a", "z>b", "z>c", "c>d");
        due("17: two in any order, then one pair", w.orders(15), 6);
        due("17: in all, however it is come to", w.sure(15, 32, 48), 1);
        due("17: open, however it is come to", w.sure(15, 0, 32), -1);
    }

    private void length() {
        CueRolls x = three();
        due("18: all met", x.length(3), 10);
        due("18: one lost", x.length(1), 8);
        due("18: both lost", x.length(2), 8);
        due("18: no rolls", x.length(0), -1);
        due("18: no such rolls", x.length(8), -1);
        due("18: no such rolls", x.length(-1), -1);
        CueRolls y = Check.withRolls("x y>a;x y>b;x>c;y>d", "x y>e;qqq>f");
        due("18: alike ones once", y.length(1), 4 + 2 + 1 + 1);
        due("18: alike ones of two rolls once", y.length(3), 6 + 2 + 1);
        y.limit(0);
        due("18: slipped ones are lost", y.length(3), 6 + 2 + 1 + 1 + 1);
        due("18: one word is not the first of two", Check.withRolls("x>a;x y>b").length(1), 2 + 1 + 2);
        due("18: nor the last of two", Check.withRolls("y>a;x y>b").length(1), 2 + 1 + 2);
    }

    private void one() {
        CueRolls x = Check.withRolls("->a", "a>b", "b>c", "->d", "d>e;zz>y", "->q");
        due("19: by another's", x.one(0), 7);
        due("19: from the other side", x.one(2), 7);
        due("19: two", x.one(3), 24);
        due("19: two", x.one(4), 24);
        due("19: itself alone", x.one(5), 32);
        due("19: no such roll", x.one(6), -1);
        due("19: no such roll", x.one(-1), -1);
        due("19: no such roll", x.one(MOST), -1);
        CueRolls chain = Check.withRolls("b>a", "c>b", "d>c", "e>d", "f>e", "g>f", "h>g", "->h");
        due("19: a chain", chain.one(0), 255);
        due("19: a chain", chain.one(7), 255);
        due("19: a chain from within", chain.one(4), 255);
        CueRolls back = Check.withRolls("->h", "h>g", "g>f", "f>e", "e>d", "d>c", "c>b", "b>a");
        due("19: a chain", back.one(0), 255);
        due("19: a chain", back.one(7), 255);
        Check.tell(x, 0, "->b");
        due("19: double no longer joins", x.one(2), 4);
        due("19: the others stay", x.one(0), 3);
    }

    private void settles() {
        CueRolls x = Check.withRolls("->a;b>c;d>e;c>q", "->b;->b", "->d", "b>x;a>y");
        due("20: two speeches, one cue", x.settles(1, 1), 1);
        due("20: one cue", x.settles(2, 1), 1);
        due("20: with others", x.settles(2, 3), 1);
        due("20: met already", x.settles(1, 8), 1);
        due("20: none", x.settles(3, 1), 0);
        due("20: not the own cues of it", x.settles(0, 6), 0);
        due("20: no such roll", x.settles(4, 1), -1);
        due("20: no such roll", x.settles(-1, 1), -1);
        due("20: no such rolls", x.settles(1, 16), -1);
        due("20: no rolls", x.settles(1, 0), -1);
        due("20: it is among them", x.settles(1, 3), -1);
        CueRolls y = Check.withRolls("->a;a>b;x>c", "->a", "->x", "->xx");
        due("20: the first speech's cue", Check.withRolls("a>b", "->a").settles(1, 1), 1);
        due("20: its own is neither slipped nor lost", y.settles(1, 1), 0);
        due("20: slipped among them", y.kind(2, 9), 4);
        due("20: slipped, met then", y.settles(2, 9), 1);
    }

    private void next() {
        CueRolls x = Check.withRolls("->a;b>c;d>e", "->q", "->b", "->d;->b");
        due("21: the most", x.next(1), 3);
        due("21: what is left", x.next(9), 1);
        due("21: of several the lowest", x.next(3), 3);
        due("21: nothing to settle, the lowest", x.next(2), 0);
        due("21: all are among them", x.next(15), -1);
        due("21: no rolls", x.next(0), -1);
        due("21: no such rolls", x.next(16), -1);
        due("21: no such rolls", x.next(LEAST), -1);
    }

    private void actAndPlay() {
        CueRolls x = three();
        due("22: act(1)", x.act(1), 16);
        due("22: act(0)", x.act(0), 0);
        due("22: act(1)", x.act(1), 17);
        due("22: none left", x.act(1), -1);
        due("22: no such roll", x.act(3), -1);
        due("22: no such roll", x.act(-1), -1);
        due("23: how many", x.play(-1), 3);
        due("23: place 0", x.play(0), 16);
        due("23: place 2", x.play(2), 17);
        due("23: place 3", x.play(3), -1);
        due("23: place -2", x.play(-2), -1);
        due("23: place MAX", x.play(MOST), -1);
        CueRolls full = new CueRolls();
        String twelve = "->a" + ";->a".repeat(11);
        for (int roll = 0; roll < 8; roll++) {
            Check.tell(full, 0, twelve);
            for (int place = 0; place < 12; place++) {
                due("22: all speeches", full.act(roll), 16 * roll + place);
            }
        }
        due("22: none left", full.act(7), -1);
        due("23: all", full.play(-1), 96);
        due("23: the last", full.play(95), 123);
        due("23: behind the last", full.play(96), -1);
    }

    private void wrong() {
        CueRolls x = three();
        due("24: none yet", x.wrong(-1), 0);
        x.act(1);
        due("24: a cue at first", x.wrong(0), 0);
        x.act(0);
        x.act(1);
        x.act(0);
        x.act(2);
        due("24: how many", x.wrong(-1), 5);
        due("24: the second", x.wrong(1), 1);
        due("24: no sixth", x.wrong(5), -1);
        due("24: none", x.wrong(-2), -1);
        CueRolls y = three();
        for (int roll : new int[] {0, 1, 0, 1, 2}) {
            y.act(roll);
        }
        due("24: none", y.wrong(-1), 0);
        due("24: none", y.wrong(0), -1);
        CueRolls z = Check.withRolls("->a;a>b;->c", "b>d");
        for (int roll : new int[] {0, 0, 1, 0}) {
            z.act(roll);
        }
        due("24: behind its own roll, no cue later", z.wrong(-1), 2);
        due("24: behind its own roll", z.wrong(0), 1);
        due("24: no cue later", z.wrong(1), 3);
    }

    private void rehearse() {
        CueRolls x = three();
        due("25: all", x.rehearse(7, -1), 5);
        int[] want = {0, 16, 1, 17, 32};
        for (int place = 0; place < 5; place++) {
            due("25: rehearse(7, " + place + ")", x.rehearse(7, place), want[place]);
        }
        due("25: place 5", x.rehearse(7, 5), -1);
        due("25: place -2", x.rehearse(7, -2), -1);
        due("25: nobody without cue", x.rehearse(2, -1), 0);
        due("25: nothing said", x.rehearse(2, 0), -1);
        due("25: waits in vain", x.rehearse(1, -1), 1);
        due("25: no rolls", x.rehearse(0, -1), -1);
        due("25: no such rolls", x.rehearse(8, -1), -1);
        due("25: not its own", Check.withRolls("->a;a>b").rehearse(1, -1), 1);
        due("25: not its own", Check.withRolls("z>q", "->a;a>b").rehearse(3, -1), 1);
        CueRolls y = Check.withRolls("->a;c>d", "a>b", "a>c", "->z;->w");
        due("25: all are ready, the lowest speaks", y.rehearse(15, 0), 0);
        due("25: the lowest of those ready", y.rehearse(15, 1), 16);
        due("25: readiness stays", y.rehearse(15, 2), 32);
        due("25: a lower one speaks first", y.rehearse(15, 3), 1);
        due("25: ready from the beginning", y.rehearse(15, 4), 48);
        due("25: without cue later, never ready", y.rehearse(15, -1), 5);
    }

    private void soon() {
        CueRolls x = three();
        due("26: no play", x.soon(7), 0);
        x.act(0);
        x.act(1);
        x.act(1);
        due("26: one place", x.soon(7), 1);
        due("26: nothing is said", x.soon(2), 3);
        due("26: less is said", x.soon(1), 2);
        due("26: no rolls", x.soon(0), -1);
        due("26: no such rolls", x.soon(8), -1);
        due("26: no such rolls", x.soon(-8), -1);
    }

    private void inside() {
        CueRolls x = Check.withRolls("->a b a b c;->a b;->c a b;->a a b a b", "a b>q;b>a b c;->z;b c>p");
        due("27: the first place", x.inside(16, 0), 0);
        due("27: at its end alone", x.inside(16, 1), -1);
        due("27: at its end alone", x.inside(16, 2), -1);
        due("27: inside and at its end", x.inside(16, 3), 1);
        due("27: two words at the end", x.inside(19, 0), -1);
        due("27: a cue of one word", x.inside(17, 0), -1);
        due("27: no cue", x.inside(18, 0), -1);
        due("27: one roll", x.inside(16, 17), -1);
        due("27: no such one", x.inside(20, 0), -1);
        due("27: no such one", x.inside(16, 4), -1);
        due("27: no such one", x.inside(-1, -1), -1);
        due("28: two speeches", x.tempted(3), 2);
        due("28: one roll", x.tempted(2), 0);
        due("28: no rolls", x.tempted(0), -1);
        due("28: no such rolls", x.tempted(4), -1);
        due("28: the first speech's cue", Check.withRolls("a b>x", "->a b c").tempted(3), 1);
        CueRolls y = Check.withRolls("a b>x", "->a b c", "->q a b q", "c d>q");
        due("28: no cue of a roll that is not among them", y.tempted(6), 0);
        due("28: nor one in a speech of such a roll", y.tempted(9), 0);
        due("28: all", y.tempted(15), 2);
        Check.tell(x, 0, "a b>x a b x");
        due("28: two cues", x.tempted(7), 2 + 1 + 3);
        due("28: two of three", x.tempted(6), 2);
    }

    private void boysAndPlot() {
        CueRolls x = Check.withPlots("ab / bcd / a / d", "j");
        due("29: boys(1023)", x.boys(1023), true);
        due("29: boys(1024)", x.boys(1024), false);
        due("29: boys(-1)", x.boys(-1), false);
        due("29: they stay", x.count(6), 1023);
        due("29: boys(0)", x.boys(0), true);
        due("29: none", x.count(6), 0);
        due("30: scene 0", x.plot(0, 0), 3);
        due("30: scene 1", x.plot(0, 1), 14);
        due("30: scene 3", x.plot(0, 3), 8);
        due("30: all", x.plot(0, -1), 15);
        due("30: another plot", x.plot(1, -1), 512);
        due("30: no such scene", x.plot(0, 4), -1);
        due("30: no such scene", x.plot(0, -2), -1);
        due("30: no such scene", x.plot(1, 1), -1);
        due("30: no such plot", x.plot(2, 0), -1);
        due("30: no such plot", x.plot(-1, 0), -1);
    }

    private void bars() {
        CueRolls x = Check.withPlots("ab / bcd / a / d / / e".replace("/ /", "/ d /"));
        due("31: one scene", x.bars(0, 0, 1, 0), 1);
        due("31: no scene of both", x.bars(0, 0, 2, 0), 0);
        due("31: next to one another", x.bars(0, 0, 2, 1), 1);
        due("31: three apart", x.bars(0, 0, 4, 2), 0);
        due("31: three apart", x.bars(0, 0, 4, 3), 1);
        due("31: either way round", x.bars(0, 4, 0, 3), 1);
        due("31: one part", x.bars(0, 0, 0, 0), -1);
        due("31: not in the plot", x.bars(0, 0, 5, 0), -1);
        due("31: not in the plot", x.bars(0, 5, 0, 0), -1);
        due("31: no such part", x.bars(0, 0, 10, 0), -1);
        due("31: no such part", x.bars(0, -1, 0, 0), -1);
        due("31: no such part", x.bars(0, 32, 0, 0), -1);
        due("31: no such change", x.bars(0, 0, 1, 4), -1);
        due("31: no such change", x.bars(0, 0, 1, -1), -1);
        due("31: no such plot", x.bars(1, 0, 1, 0), -1);
        x.boys(1);
        due("31: unlike sorts", x.bars(0, 0, 1, 0), 0);
        x.boys(3);
        due("31: both for boys", x.bars(0, 0, 1, 0), 1);
    }

    private void cast() {
        CueRolls x = Check.withPlots("ab / bcd / a / d", "a/b/c", "abcdefghij", "ab/bc/cd/de/ea");
        due("32: need", x.cast(0, -1, 0), 3);
        int[] want = {0, 1, 0, 2};
        for (int part = 0; part < 4; part++) {
            due("32: coat of " + part, x.cast(0, part, 0), want[part]);
        }
        due("32: one coat", x.cast(1, -1, 0), 1);
        due("32: by a change of 1", x.cast(1, -1, 1), 2);
        due("32: c has the coat of a", x.cast(1, 2, 1), 0);
        due("32: by a change of 2", x.cast(1, -1, 2), 3);
        due("32: ten", x.cast(2, -1, 0), 10);
        due("32: the tenth", x.cast(2, 9, 3), 9);
        due("32: a ring of five", x.cast(3, -1, 0), 3);
        due("32: the last of the ring", x.cast(3, 4, 0), 2);
        due("32: not in the plot", x.cast(0, 4, 0), -1);
        due("32: no such part", x.cast(0, 10, 0), -1);
        due("32: no such part", x.cast(0, -2, 0), -1);
        due("32: no such change", x.cast(0, 0, 4), -1);
        due("32: no such change", x.cast(0, -1, -1), -1);
        due("32: no such plot", x.cast(4, 0, 0), -1);
        x.boys(2);
        due("32: men and boys never share", x.cast(1, -1, 0), 2);
        due("32: the boy's coat", x.cast(1, 1, 0), 1);
        due("32: the men's coat", x.cast(1, 2, 0), 0);
        // The fewest coats come first: b could have the coat of a, but then four would be needed.
        CueRolls y = Check.withPlots("ac/ad/bc/bd/cd/ef");
        due("32: need", y.cast(0, -1, 0), 3);
        CueRolls z = Check.withPlots("ac/bd/cd");
        due("32: need two", z.cast(0, -1, 0), 2);
        due("32: b may not have the coat of a", z.cast(0, 1, 0), 1);
        due("32: c then", z.cast(0, 2, 0), 1);
        due("32: d then", z.cast(0, 3, 0), 0);
    }

    private void crowd() {
        CueRolls x = Check.withPlots("ab / bcd / acd / d");
        due("33: the scene", x.crowd(0, 0), 1);
        due("33: how many", x.crowd(0, 1), 3);
        due("33: the first scene", Check.withPlots("abc/ab/def").crowd(0, 0), 0);
        due("33: how many there", Check.withPlots("abc/ab/def").crowd(0, 1), 3);
        due("33: no such one", x.crowd(0, 2), -1);
        due("33: no such one", x.crowd(0, -1), -1);
        due("33: no such plot", x.crowd(1, 0), -1);
        due("33: no such plot", x.crowd(-1, 0), -1);
    }

    private void could() {
        CueRolls x = Check.withPlots("ab / bcd / a / d");
        due("34: three men", x.could(0, 0, 3, 0), 1);
        due("34: two men", x.could(0, 0, 2, 0), 0);
        due("34: two men and boys", x.could(0, 0, 2, 10), 0);
        due("34: by a change", x.could(0, 1, 3, 0), 0);
        due("34: by a change", x.could(0, 1, 4, 0), 1);
        x.boys(2);
        due("34: two men, one boy", x.could(0, 0, 2, 1), 1);
        due("34: no boy", x.could(0, 0, 10, 0), 0);
        due("34: one man", x.could(0, 0, 1, 1), 0);
        x.boys(15);
        due("34: no man is needed", x.could(0, 0, 0, 3), 1);
        due("34: eleven men", x.could(0, 0, 11, 0), -1);
        due("34: eleven boys", x.could(0, 0, 0, 11), -1);
        due("34: -1 men", x.could(0, 0, -1, 0), -1);
        due("34: -1 boys", x.could(0, 0, 0, -1), -1);
        due("34: no such change", x.could(0, 4, 3, 3), -1);
        due("34: no such plot", x.could(1, 0, 3, 3), -1);
    }

    private void habit() {
        CueRolls x = three();
        due("35: no such habit", x.habit(0, 0), false);
        due("35: none", x.habit(0, -1), true);
        Check.tell(x, 2, "y:7");
        due("35: a habit", x.habit(0, 0), true);
        due("35: no such roll", x.habit(3, 0), false);
        due("35: no such roll", x.habit(-1, 0), false);
        due("35: no such habit", x.habit(0, 1), false);
        due("35: no such habit", x.habit(0, -2), false);
        due("35: refused, it stays", x.likely(16, 0), 7);
        due("35: none again", x.habit(0, -1), true);
        due("35: none", x.likely(16, 0), -1);
        x.habit(0, 0);
        x.back();
        Check.tell(x, 0, LORD);
        Check.tell(x, 0, WELCOME);
        due("35: a later roll has none at first", x.likely(16, 0), -1);
    }

    /** The worth of the words "queue a" and "sound" by one habit. */
    private void worthOf(String habit, int want) {
        CueRolls x = Check.withRolls("->queue sound;->queue");
        due("36: told '" + habit + "'", Check.tell(x, 2, habit), 0);
        due("36: worth by '" + habit + "'", x.worth(0, 0), want);
    }

    private void worth() {
        worthOf("y:n", 10);
        worthOf("y:v", 2 + 4);
        worthOf("y:f", 19 + 17);
        worthOf("y:l", 4 + 5);
        worthOf("y:w", 5);
        worthOf("y:100", 200);
        worthOf("y:101", 200);
        worthOf("y:0-1", 0);
        worthOf("y:2+3*4", 28);
        worthOf("y:[2+3]*4", 40);
        worthOf("y:9-3-2", 8);
        worthOf("y:90/4/3", 14);
        worthOf("y:9/2*2", 16);
        worthOf("y:20+[0-7]/2", 34);
        worthOf("y:20+7/[0-2]", 34);
        worthOf("y:5+7/0", 10);
        worthOf("y:9999*9999-9999*100-50", 100);
        worthOf("y:9999*9999/9999", 200);
        worthOf("y:[0-9999]*9999+9999*100+100+50", 100);
        worthOf("y:[9999*9999+9999]/9999-[9999*9999]/9999", 0);
        worthOf("y:w=0?3;y:4", 7);
        worthOf("y:w=0?3", 3);
        worthOf("y:1=2?3", 0);
        worthOf("y:v>3?1;y:n=5?2;y:9", 3);
        worthOf("y:!v>3?1;y:2", 3);
        worthOf("y:!!v>3?1;y:4", 5);
        worthOf("y:!v>3&w=5?1;y:4", 5);
        worthOf("y:1=1|1=2&1=2?1", 2);
        worthOf("y:(1=1|1=2)&1=2?1;y:2", 4);
        worthOf("y:!(1=1|1=2)?1;y:2", 4);
        worthOf("y:1<2&2>1&2=2?1", 2);
        worthOf("y:2<1|1>2|1=2?1", 0);
        worthOf("y:1=2&1=1?3", 0);
        worthOf("y:1=1&1=2&1=1?3", 0);
        worthOf("y:1=2|1=2&1=1?3", 0);
        worthOf("y:1=1|1=2&1=2|1=2?3", 6);
        worthOf("y:2<2|2>2?1;y:3", 6);
        worthOf("y:5;y:6", 10);
        worthOf("  y : n  >  4  ?  1 2".replace("1 2", "12 ") + ";  y : 1 ", 24);
        CueRolls x = three();
        Check.tell(x, 2, "y:1");
        due("36: no such roll", x.worth(3, 0), -1);
        due("36: no such roll", x.worth(-1, 0), -1);
        due("36: no such habit", x.worth(0, 1), -1);
        due("36: no such habit", x.worth(0, -1), -1);
    }

    private void likely() {
        CueRolls x = Check.withRolls("->a", "my lord>b;lord>c;->d;zeal>e");
        Check.tell(x, 2, "y:f+l*2");
        Check.tell(x, 2, "y:w*9999-9899");
        due("37: no habit", x.likely(16, 0), -1);
        x.habit(0, 0);
        due("37: the last word of two", x.likely(16, 0), 12 + 2 * 4);
        due("37: one word", x.likely(17, 0), 12 + 2 * 4);
        due("37: another", x.likely(19, 0), 26 + 2 * 12);
        due("37: no cue", x.likely(18, 0), -1);
        due("37: its own roll", x.likely(16, 1), -1);
        x.habit(1, 0);
        due("37: its own roll with a habit", x.likely(16, 1), -1);
        x.habit(0, 1);
        due("37: the word ahead", x.likely(16, 0), 100);
        due("37: none ahead", x.likely(17, 0), 0);
        due("37: no such roll", x.likely(16, 2), -1);
        due("37: no such roll", x.likely(16, -1), -1);
        due("37: no such speech", x.likely(20, 0), -1);
        due("37: no such speech", x.likely(-1, 0), -1);
    }

    private void keepAndBack() {
        CueRolls x = Check.withRolls(LORD);
        x.act(0);
        due("38: keep()", x.keep(), 2);
        Check.tell(x, 0, WELCOME);
        x.act(1);
        x.act(0);
        due("38: nothing changes", x.count(0) + x.play(-1), 5);
        due("39: back()", x.back(), 2);
        due("39: one roll", x.count(0), 1);
        due("39: one speech", x.play(-1), 1);
        due("39: no such roll", x.many(1), -1);
        due("39: its next one again", x.act(0), 1);
        Check.tell(x, 0, SWEET);
        due("39: again", x.back(), 2);
        due("38: keep() again", x.keep(), 2);
        Check.tell(x, 0, SWEET);
        x.act(1);
        due("38: the latest", x.keep(), 4);
        due("39: to the latest", x.back(), 4);
        CueRolls y = three();
        y.act(0);
        Check.tell(y, 1, "a");
        Check.tell(y, 2, "y:1");
        y.limit(3);
        y.boys(5);
        Check.tape(y, "zz");
        due("39: to none", y.back(), 0);
        due("39: no rolls", y.count(0), 0);
        due("39: no speeches", y.count(3), 0);
        due("39: no play", y.play(-1), 0);
        due("39: plots stay", y.count(1), 1);
        due("39: habits stay", y.count(2), 1);
        due("39: the tape stays", y.count(4), 2);
        due("39: the limit stays", y.count(5), 3);
        due("39: boys stay", y.count(6), 5);
        CueRolls z = Check.withRolls("->a");
        z.keep();
        Check.tell(z, 0, "a>b");
        due("14: with the roll told first", z.least(3), 0);
        due("17: with the roll told first", z.sure(3, 0, 16), 1);
        z.back();
        Check.tell(z, 0, "->b");
        due("39: one came where one went, its gaps", z.least(3), 1);
        due("39: one came where one went, its orders", z.orders(3), 2);
        due("39: one came where one went, sure", z.sure(3, 0, 16), -1);
    }

    private void count() {
        CueRolls x = three();
        Check.tell(x, 1, "a");
        Check.tell(x, 1, "a");
        Check.tell(x, 2, "y:1");
        Check.tape(x, "abcd");
        x.limit(6);
        x.boys(770);
        int[] want = {3, 2, 1, 5, 4, 6, 770};
        for (int what = 0; what < 7; what++) {
            due("40: count(" + what + ")", x.count(what), want[what]);
        }
        due("40: count(7)", x.count(7), -1);
        due("40: count(-1)", x.count(-1), -1);
        due("40: count(MIN)", x.count(LEAST), -1);
    }

    private void all() {
        newObject();
        feed();
        end();
        faultOfRolls();
        faultOfPlots();
        faultOfHabits();
        faultOfSorts();
        text();
        speech();
        many();
        ends();
        far();
        limit();
        kind();
        kinds();
        nearest();
        least();
        toldOnly();
        orders();
        first();
        sure();
        length();
        one();
        settles();
        next();
        actAndPlay();
        wrong();
        rehearse();
        soon();
        inside();
        boysAndPlot();
        bars();
        cast();
        crowd();
        could();
        habit();
        worth();
        likely();
        keepAndBack();
        count();
    }

    public static void main(String[] args) {
        Check check = new Check("PromiseTest");
        new PromiseTest(check).all();
        check.close();
    }
}
