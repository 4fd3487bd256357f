import java.util.NoSuchElementException;

/** Actors' rolls and their cues, orders of speeches, a play, plots and their cast, writers' habits. */
public final class CueRolls {
    /** None; refused. */
    public static final int NONE = -1;
    /** Not told. */
    public static final int HIDDEN = -2;

    private static final int SORT_ROLL = 0;
    private static final int SORT_PLOT = 1;
    private static final int SORT_HABIT = 2;

    private final Tape tape;
    private final RollReader rollReader;
    private final PlotReader plotReader;
    private final Habits habits;
    private final Rolls rolls;
    private final Cues cues;
    private final Orders orders;
    private final Stage stage;
    private final Plots plots;
    private int keptRolls;
    private int keptPlay;

    public CueRolls() {
        Rolls allRolls = new Rolls();
        Cues allCues = new Cues(allRolls);
        tape = new Tape();
        rollReader = new RollReader();
        plotReader = new PlotReader();
        habits = new Habits();
        rolls = allRolls;
        cues = allCues;
        orders = new Orders(allRolls, allCues);
        stage = new Stage(allRolls, allCues);
        plots = new Plots();
        keptRolls = 0;
        keptPlay = 0;
    }

    // ---- the tape and the texts on it

    public int feed(int a, int b, int c, int d, int e) {
        int more = Tape.told(a) + Tape.told(b) + Tape.told(c) + Tape.told(d) + Tape.told(e);
        if (tape.size() + more > Tape.MOST) {
            return NONE;
        }
        tape.put(a);
        tape.put(b);
        tape.put(c);
        tape.put(d);
        tape.put(e);
        return tape.size();
    }

    public boolean end(int n) {
        return tape.cut(n);
    }

    public int fault(int sort) {
        Reader reader = readerOf(sort);
        return reader == null ? HIDDEN : reader.faultOf(tape);
    }

    public int text(int sort) {
        Reader reader = readerOf(sort);
        if (reader == null || reader.faultOf(tape) != NONE) {
            return NONE;
        }
        int number = stored(sort);
        if (number != NONE) {
            tape.cut(0);
        }
        return number;
    }

    private Reader readerOf(int sort) {
        switch (sort) {
            case SORT_ROLL:
                return rollReader;
            case SORT_PLOT:
                return plotReader;
            case SORT_HABIT:
                return habits;
            default:
                return null;
        }
    }

    /** The number of what was read without fault; NONE: there are so many. */
    private int stored(int sort) {
        switch (sort) {
            case SORT_ROLL:
                return rolls.add(rollReader);
            case SORT_PLOT:
                return plots.add(plotReader);
            default:
                return habits.add();
        }
    }

    // ---- speeches and their cues

    public int speech(int speech, int what) throws NoSuchElementException {
        if (!rolls.has(speech) || what < 0 || what > 2) {
            throw new NoSuchElementException("no such speech, or nothing of it that has this number");
        }
        if (what == 0) {
            return rolls.wordsOf(speech);
        }
        return what == 1 ? rolls.cueWordsOf(speech) : Words.letters(rolls.lastWord(speech));
    }

    public int many(int roll) {
        return rolls.hasRoll(roll) ? rolls.sizeOf(roll) : NONE;
    }

    public int ends(int one, int other) {
        if (!rolls.has(one) || !rolls.has(other)) {
            return NONE;
        }
        return cues.closes(one, other) ? 1 : 0;
    }

    public int far(int one, int other) {
        if (!rolls.hasCue(one) || !rolls.has(other)) {
            return NONE;
        }
        return cues.distance(one, other);
    }

    public boolean limit(int v) {
        return cues.setLimit(v);
    }

    public int kind(int speech, int rolls) {
        if (!this.rolls.has(speech) || !this.rolls.haveAll(rolls) || !Rolls.isOf(speech, rolls)) {
            return NONE;
        }
        return cues.kindOf(speech, rolls);
    }

    public int kinds(int rolls, int kind) {
        if (!this.rolls.haveAll(rolls) || kind < Cues.NOTHING || kind > Cues.LOST) {
            return NONE;
        }
        return cues.howManyOfKind(rolls, kind);
    }

    public int nearest(int speech, int rolls) {
        if (!this.rolls.hasCue(speech) || !this.rolls.haveAll(rolls) || !Rolls.isOf(speech, rolls)) {
            return NONE;
        }
        return cues.leastFar(speech, rolls);
    }

    // ---- orders of all speeches

    public int least(int rolls) {
        return orders.areTold(rolls) ? orders.fewestGaps() : NONE;
    }

    public long orders(int rolls) {
        return orders.areTold(rolls) ? orders.howManyBest() : NONE;
    }

    public int first(int rolls, int place) {
        return orders.areTold(rolls) ? orders.firstAt(place) : NONE;
    }

    public int sure(int rolls, int one, int other) {
        if (one == other || !this.rolls.has(one) || !this.rolls.has(other)) {
            return HIDDEN;
        }
        if (!Rolls.isOf(one, rolls) || !Rolls.isOf(other, rolls) || !orders.areTold(rolls)) {
            return HIDDEN;
        }
        return orders.certain(one, other);
    }

    // ---- what rolls tell of one another

    public int length(int rolls) {
        return this.rolls.haveAll(rolls) ? cues.wordsAtLeast(rolls) : NONE;
    }

    public int one(int roll) {
        return rolls.hasRoll(roll) ? cues.joined(roll) : NONE;
    }

    public int settles(int roll, int rolls) {
        if (!this.rolls.hasRoll(roll) || !this.rolls.haveAll(rolls) || Rolls.isIn(roll, rolls)) {
            return NONE;
        }
        return cues.settledBy(roll, rolls);
    }

    public int next(int rolls) {
        return this.rolls.haveAll(rolls) ? cues.settlesMost(rolls) : NONE;
    }

    // ---- the play, told and rehearsed

    public int act(int roll) {
        return rolls.hasRoll(roll) ? stage.goOn(roll) : NONE;
    }

    public int play(int place) {
        return place == NONE ? stage.played() : stage.playedAt(place);
    }

    public int wrong(int i) {
        return stage.gapOfPlay(i);
    }

    public int rehearse(int rolls, int place) {
        if (!this.rolls.haveAll(rolls)) {
            return NONE;
        }
        stage.rehearseAll(rolls);
        return place == NONE ? stage.said() : stage.saidAt(place);
    }

    public int soon(int rolls) {
        if (!this.rolls.haveAll(rolls)) {
            return NONE;
        }
        stage.rehearseAll(rolls);
        return stage.saidOtherwise();
    }

    public int inside(int one, int other) {
        if (!rolls.has(one) || !rolls.has(other) || Rolls.rollOf(one) == Rolls.rollOf(other)) {
            return NONE;
        }
        return cues.within(one, other);
    }

    public int tempted(int rolls) {
        return this.rolls.haveAll(rolls) ? cues.temptations(rolls) : NONE;
    }

    // ---- plots

    public boolean boys(int parts) {
        return plots.setBoys(parts);
    }

    public int plot(int plot, int scene) {
        if (!plots.has(plot)) {
            return NONE;
        }
        return scene == NONE ? plots.partsOf(plot) : plots.partsIn(plot, scene);
    }

    public int bars(int plot, int one, int other, int change) {
        if (!plots.has(plot) || !Plots.isChange(change) || one == other) {
            return NONE;
        }
        if (!plots.hasPart(plot, one) || !plots.hasPart(plot, other)) {
            return NONE;
        }
        return plots.bar(plot, one, other, change) ? 1 : 0;
    }

    public int cast(int plot, int part, int change) {
        if (!plots.has(plot) || !Plots.isChange(change) || part != NONE && !plots.hasPart(plot, part)) {
            return NONE;
        }
        int need = plots.dressAll(plot, change);
        return part == NONE ? need : plots.coatOf(part);
    }

    public int crowd(int plot, int what) {
        if (!plots.has(plot) || what < 0 || what > 1) {
            return NONE;
        }
        int scene = plots.fullest(plot);
        return what == 0 ? scene : Integer.bitCount(plots.partsIn(plot, scene));
    }

    public int could(int plot, int change, int men, int boys) {
        if (!plots.has(plot) || !Plots.isChange(change) || !Plots.isCrew(men) || !Plots.isCrew(boys)) {
            return NONE;
        }
        return plots.suffice(plot, change, men, boys) ? 1 : 0;
    }

    // ---- habits

    public boolean habit(int roll, int habit) {
        if (!rolls.hasRoll(roll) || habit != NONE && !habits.has(habit)) {
            return false;
        }
        rolls.setHabit(roll, habit);
        return true;
    }

    public int worth(int roll, int habit) {
        if (!rolls.hasRoll(roll) || !habits.has(habit)) {
            return NONE;
        }
        int sum = 0;
        for (int place = 0; place < rolls.sizeOf(roll); place++) {
            int speech = Rolls.PLACES * roll + place;
            sum += habits.worthOf(habit, rolls.lastWord(speech), rolls.lastButOne(speech));
        }
        return sum;
    }

    public int likely(int speech, int roll) {
        if (!rolls.hasCue(speech) || !rolls.hasRoll(roll) || Rolls.rollOf(speech) == roll) {
            return NONE;
        }
        int habit = rolls.habitOf(roll);
        if (habit == NONE) {
            return NONE;
        }
        return habits.worthOf(habit, rolls.lastCueWord(speech), rolls.lastCueWordButOne(speech));
    }

    // ---- what is kept, and counts

    public int keep() {
        keptRolls = rolls.number();
        keptPlay = stage.played();
        return keptRolls + keptPlay;
    }

    public int back() {
        rolls.cutTo(keptRolls);
        stage.cutTo(keptPlay);
        return rolls.number() + stage.played();
    }

    public int count(int what) {
        switch (what) {
            case 0:
                return rolls.number();
            case 1:
                return plots.number();
            case 2:
                return habits.number();
            case 3:
                return rolls.speeches();
            case 4:
                return tape.size();
            case 5:
                return cues.limitNow();
            case 6:
                return plots.boysNow();
            default:
                return NONE;
        }
    }

    // ---- classes inside

    /** The bytes told so far. */
    private static final class Tape {
        static final int MOST = 200;
        private final byte[] bytes;
        private int size;

        Tape() {
            bytes = new byte[MOST];
            size = 0;
        }

        int size() {
            return size;
        }

        /** The byte at a place, 0 .. 255; NONE: beyond the last one. */
        int at(int place) {
            return place >= 0 && place < size && place < bytes.length ? bytes[place] & 255 : NONE;
        }

        /** How many bytes of a number are told, as those of 0 are left out. */
        static int told(int number) {
            int told = 0;
            for (int shift = 24; shift >= 0; shift -= 8) {
                if ((number >>> shift & 255) != 0) {
                    told++;
                }
            }
            return told;
        }

        void put(int number) {
            for (int shift = 24; shift >= 0; shift -= 8) {
                int next = number >>> shift & 255;
                if (next != 0 && size >= 0 && size < bytes.length) {
                    bytes[size] = (byte) next;
                    size++;
                }
            }
        }

        boolean cut(int n) {
            if (n < 0 || n > size) {
                return false;
            }
            size = n;
            return true;
        }
    }

    /** Words as numbers: five bits a letter (1 for a .. 26), the first letter highest; 0 is no word. */
    private static final class Words {
        static final int MOST_LETTERS = 8;
        private static final int BITS = 5;

        private Words() {
        }

        static long with(long word, int letter) {
            return word << BITS | letter - 'a' + 1;
        }

        /** The letter that has so many behind it. */
        static int letter(long word, int behind) {
            return (int) (word >>> BITS * behind) & 31;
        }

        static int letters(long word) {
            int letters = 0;
            for (int i = 0; i < MOST_LETTERS && word >>> BITS * i != 0; i++) {
                letters++;
            }
            return letters;
        }

        static int vowels(long word) {
            int vowels = 0;
            for (int i = 0; i < MOST_LETTERS; i++) {
                switch (letter(word, i) + 'a' - 1) {
                    case 'a':
                    case 'e':
                    case 'i':
                    case 'o':
                    case 'u':
                        vowels++;
                        break;
                    default:
                        break;
                }
            }
            return vowels;
        }

        static int firstLetter(long word) {
            int letters = letters(word);
            return letters == 0 ? 0 : letter(word, letters - 1);
        }
    }

    /**
     * Reads a text token by token. A token is a sign (its byte), or bytes that are joined, as the letters
     * of a word are; blanks only part them. Once a token is wrong it stays there, and nothing fits any more.
     */
    private abstract static class Reader {
        /** What stands behind the last byte. */
        static final int END = 256;
        /** A byte that nothing can take. */
        static final int WRONG = 257;
        /** A token of joined bytes; it stands as this and its value together. */
        static final int JOINED = 1000;
        static final int MOST_TOKENS = Tape.MOST + 1;
        private final long[] cut;
        private final int[] places;
        private long[] row;
        private int at;
        private int fault;

        Reader() {
            cut = new long[MOST_TOKENS];
            places = new int[MOST_TOKENS];
            row = cut;
            at = 0;
            fault = NONE;
        }

        /** Whether a byte is joined with those of its kind next to it. */
        abstract boolean joins(int sign);

        /** How many bytes are joined at most. */
        abstract int mostJoined();

        /** The value of joined bytes with one more. */
        abstract long grown(long value, int sign);

        /** Takes all that the sort of text may have, up to its end or the first wrong token. */
        abstract void takeAll();

        final int faultOf(Tape tape) {
            cutUp(tape);
            begin(cut);
            takeAll();
            if (sign() != END) {
                spoil();
            }
            return fault;
        }

        private void cutUp(Tape tape) {
            int tokens = 0;
            int run = 0;
            for (int place = 0; place < tape.size() && tokens < Tape.MOST; place++) {
                int sign = tape.at(place);
                boolean joins = joins(sign);
                if (joins && run > 0 && run < mostJoined() && tokens > 0) {
                    cut[tokens - 1] = JOINED + grown(cut[tokens - 1] - JOINED, sign);
                } else if (sign != ' ') {
                    boolean tooMany = joins && run > 0;
                    cut[tokens] = tooMany ? WRONG : joins ? JOINED + grown(0, sign) : sign;
                    places[tokens] = place;
                    tokens++;
                }
                run = joins ? run + 1 : 0;
            }
            cut[tokens] = END;
            places[tokens] = tape.size();
        }

        final void begin(long[] tokens) {
            row = tokens;
            at = 0;
            fault = NONE;
        }

        final void copyTo(long[] tokens) {
            for (int i = 0; tokens != null && i < tokens.length && i < cut.length; i++) {
                tokens[i] = cut[i];
            }
        }

        /** The token that stands here. */
        final int sign() {
            if (fault != NONE || row == null || at < 0 || at >= row.length) {
                return WRONG;
            }
            return row[at] >= JOINED ? JOINED : (int) row[at];
        }

        /** The value of the joined bytes that stand here. */
        final long value() {
            return row != null && at >= 0 && at < row.length ? row[at] - JOINED : 0;
        }

        final void step() {
            at++;
        }

        final boolean takes(int sign) {
            if (sign() != sign) {
                return false;
            }
            at++;
            return true;
        }

        final void needs(int sign) {
            if (sign() == sign) {
                at++;
            } else {
                spoil();
            }
        }

        final void spoil() {
            if (fault == NONE && at >= 0 && at < places.length) {
                fault = places[at];
            }
        }
    }

    /** Reads a text as a roll, item by item. */
    private static final class RollReader extends Reader {
        private final int[] cueWords;
        private final long[] cues;
        private final int[] wordCounts;
        private final long[] words;
        private int items;

        RollReader() {
            cueWords = new int[Rolls.MOST_ITEMS];
            cues = new long[Rolls.MOST_ITEMS * Rolls.MOST_CUE];
            wordCounts = new int[Rolls.MOST_ITEMS];
            words = new long[Rolls.MOST_ITEMS * Rolls.MOST_WORDS];
            items = 0;
        }

        boolean joins(int sign) {
            return sign >= 'a' && sign <= 'z';
        }

        int mostJoined() {
            return Words.MOST_LETTERS;
        }

        long grown(long value, int sign) {
            return Words.with(value, sign);
        }

        void takeAll() {
            items = 0;
            boolean more = true;
            for (int i = 0; i < Rolls.MOST_ITEMS && more; i++) {
                cueWords[i] = takes('-') ? 0 : takeWords(cues, Rolls.MOST_CUE * i, Rolls.MOST_CUE);
                needs('>');
                wordCounts[i] = takeWords(words, Rolls.MOST_WORDS * i, Rolls.MOST_WORDS);
                items++;
                more = i + 1 < Rolls.MOST_ITEMS && takes(';');
            }
        }

        /** Takes one word at least, so many at most; how many they are. */
        private int takeWords(long[] into, int from, int most) {
            int taken = 0;
            for (int i = 0; i < most && from + i < into.length && sign() == JOINED; i++) {
                into[from + i] = value();
                taken++;
                step();
            }
            if (taken == 0) {
                spoil();
            }
            return taken;
        }

        int items() {
            return items;
        }

        int cueWordsOf(int item) {
            return item >= 0 && item < cueWords.length ? cueWords[item] : 0;
        }

        long cueWord(int item, int i) {
            int at = Rolls.MOST_CUE * item + i;
            return at >= 0 && at < cues.length ? cues[at] : 0;
        }

        int wordsOf(int item) {
            return item >= 0 && item < wordCounts.length ? wordCounts[item] : 0;
        }

        long word(int item, int i) {
            int at = Rolls.MOST_WORDS * item + i;
            return at >= 0 && at < words.length ? words[at] : 0;
        }
    }

    /** Reads a text as a plot, scene by scene. */
    private static final class PlotReader extends Reader {
        private final int[] parts;
        private int scenes;

        PlotReader() {
            parts = new int[Plots.MOST_SCENES];
            scenes = 0;
        }

        boolean joins(int sign) {
            return false;
        }

        int mostJoined() {
            return 0;
        }

        long grown(long value, int sign) {
            return value;
        }

        void takeAll() {
            scenes = 0;
            boolean more = true;
            for (int i = 0; i < Plots.MOST_SCENES && more; i++) {
                parts[i] = takeScene();
                scenes++;
                more = i + 1 < Plots.MOST_SCENES && takes('/');
            }
        }

        private int takeScene() {
            int taken = 0;
            boolean more = true;
            for (int i = 0; i < Plots.PARTS && more; i++) {
                int part = sign() - 'a';
                more = part >= 0 && part < Plots.PARTS && (taken >> part & 1) == 0;
                if (more) {
                    taken |= 1 << part;
                    step();
                }
            }
            if (taken == 0) {
                spoil();
            }
            return taken;
        }

        int scenes() {
            return scenes;
        }

        int partsIn(int scene) {
            return scene >= 0 && scene < parts.length ? parts[scene] : 0;
        }
    }

    /** The habits told; a habit is read anew, clause by clause, for each word that it values. */
    private static final class Habits extends Reader {
        static final int MOST = 4;
        private static final int MOST_WITHIN = 6;
        private static final int MOST_DIGITS = 4;
        private static final int MOST_NUMBER = 1000000;
        private static final int MOST_WORTH = 100;
        private final long[][] texts;
        private int number;
        private long word;
        private int letters;
        private int vowels;
        private int firstLetter;
        private int lettersAhead;
        private int worth;

        Habits() {
            texts = new long[MOST][MOST_TOKENS];
            number = 0;
        }

        boolean joins(int sign) {
            return sign >= '0' && sign <= '9';
        }

        int mostJoined() {
            return MOST_DIGITS;
        }

        long grown(long value, int sign) {
            return 10 * value + sign - '0';
        }

        int number() {
            return number;
        }

        boolean has(int habit) {
            return habit >= 0 && habit < number && habit < texts.length;
        }

        /** Keeps what was read without fault. */
        int add() {
            if (number < 0 || number >= texts.length) {
                return NONE;
            }
            copyTo(texts[number]);
            number++;
            return number - 1;
        }

        /** The worth of a last word, with the word ahead of it (0: none), within 0 .. 100. */
        int worthOf(int habit, long last, long ahead) {
            if (!has(habit)) {
                return 0;
            }
            word = last;
            letters = Words.letters(last);
            vowels = Words.vowels(last);
            firstLetter = Words.firstLetter(last);
            lettersAhead = Words.letters(ahead);
            begin(texts[habit]);
            takeAll();
            return Math.max(0, Math.min(MOST_WORTH, worth));
        }

        void takeAll() {
            worth = 0;
            boolean held = false;
            boolean more = true;
            for (int i = 0; i < Tape.MOST && more; i++) {
                needs('y');
                needs(':');
                boolean opened = sign() == '!' || sign() == '(';
                int value = opened ? 0 : sum(0);
                boolean holds = true;
                // Only what stands behind a first sum tells whether it belongs to a condition.
                if (opened || isRelation(sign())) {
                    holds = opened ? condition(0) : moreTruths(moreUnits(compared(value, 0), 0), 0);
                    needs('?');
                    value = sum(0);
                }
                if (holds && !held) {
                    held = true;
                    worth = value;
                }
                more = takes(';');
            }
        }

        private boolean condition(int depth) {
            return moreTruths(moreUnits(unit(depth), depth), depth);
        }

        private boolean moreTruths(boolean truth, int depth) {
            boolean any = truth;
            for (int i = 0; i < Tape.MOST && takes('|'); i++) {
                any |= moreUnits(unit(depth), depth);
            }
            return any;
        }

        private boolean moreUnits(boolean unit, int depth) {
            boolean all = unit;
            for (int i = 0; i < Tape.MOST && takes('&'); i++) {
                all &= unit(depth);
            }
            return all;
        }

        private boolean unit(int depth) {
            boolean denied = false;
            int within = depth;
            for (int i = depth; i < MOST_WITHIN && takes('!'); i++) {
                denied = !denied;
                within++;
            }
            boolean holds;
            if (within < MOST_WITHIN && takes('(')) {
                holds = condition(within + 1);
                needs(')');
            } else {
                holds = compared(sum(within), within);
            }
            return holds != denied;
        }

        private boolean compared(int left, int depth) {
            int relation = sign();
            if (!isRelation(relation)) {
                spoil();
                return false;
            }
            step();
            int right = sum(depth);
            if (relation == '=') {
                return left == right;
            }
            return relation == '<' ? left < right : left > right;
        }

        private static boolean isRelation(int sign) {
            return sign == '=' || sign == '<' || sign == '>';
        }

        private int sum(int depth) {
            int sum = term(depth);
            int sign = sign();
            for (int i = 0; i < Tape.MOST && (sign == '+' || sign == '-'); i++) {
                step();
                int term = term(depth);
                sum = bounded(sign == '+' ? sum + term : sum - term);
                sign = sign();
            }
            return sum;
        }

        private int term(int depth) {
            int product = atom(depth);
            int sign = sign();
            for (int i = 0; i < Tape.MOST && (sign == '*' || sign == '/'); i++) {
                step();
                int atom = atom(depth);
                if (sign == '*') {
                    product = bounded((long) product * atom);
                } else {
                    product = atom == 0 ? 0 : bounded(product / atom);
                }
                sign = sign();
            }
            return product;
        }

        private static int bounded(long value) {
            return (int) Math.max(-MOST_NUMBER, Math.min(MOST_NUMBER, value));
        }

        private int atom(int depth) {
            int sign = sign();
            if (sign == '[' && depth < MOST_WITHIN) {
                step();
                int value = sum(depth + 1);
                needs(']');
                return value;
            }
            int value = sign == JOINED ? (int) value() : letterValue(sign);
            if (value == NONE) {
                spoil();
                return 0;
            }
            step();
            return value;
        }

        /** What one of the letters n v f l w is; NONE: another sign. */
        private int letterValue(int sign) {
            switch (sign) {
                case 'n':
                    return letters;
                case 'v':
                    return vowels;
                case 'f':
                    return firstLetter;
                case 'l':
                    return Words.letter(word, 0);
                case 'w':
                    return lettersAhead;
                default:
                    return NONE;
            }
        }
    }

    /** The rolls told; a speech is numbered 16 times its roll and its place there. */
    private static final class Rolls {
        static final int MOST = 8;
        static final int MOST_ITEMS = 12;
        static final int MOST_WORDS = 12;
        static final int MOST_CUE = 2;
        static final int PLACES = 16;
        static final int MOST_SPEECHES = MOST * MOST_ITEMS;
        private static final int SPEECHES = MOST * PLACES;
        private final int[] sizes;
        private final int[] habits;
        private final int[] cueWords;
        private final long[] cues;
        private final int[] wordCounts;
        private final long[] words;
        private final int[] listed;
        private int speeches;
        private int number;
        private int changes;

        Rolls() {
            sizes = new int[MOST];
            habits = new int[MOST];
            cueWords = new int[SPEECHES];
            cues = new long[SPEECHES * MOST_CUE];
            wordCounts = new int[SPEECHES];
            words = new long[SPEECHES * MOST_WORDS];
            listed = new int[MOST_SPEECHES];
            speeches = 0;
            number = 0;
            changes = 0;
        }

        static int rollOf(int speech) {
            return speech / PLACES;
        }

        static boolean isIn(int roll, int some) {
            return roll >= 0 && roll < MOST && (some >> roll & 1) != 0;
        }

        static boolean isOf(int speech, int some) {
            return speech >= 0 && isIn(rollOf(speech), some);
        }

        int number() {
            return number;
        }

        /** Grows with each change of the rolls. */
        int changes() {
            return changes;
        }

        boolean hasRoll(int roll) {
            return roll >= 0 && roll < number && roll < MOST;
        }

        /** Whether some rolls, told as bits, are at least one and all there. */
        boolean haveAll(int some) {
            return some > 0 && some < 1 << number;
        }

        boolean has(int speech) {
            int roll = rollOf(speech);
            return speech >= 0 && roll < number && roll < sizes.length && speech % PLACES < sizes[roll];
        }

        boolean hasCue(int speech) {
            return has(speech) && cueWords[speech] > 0;
        }

        int sizeOf(int roll) {
            return roll >= 0 && roll < number && roll < sizes.length ? sizes[roll] : 0;
        }

        int speeches() {
            return speeches;
        }

        /** All speeches one by one, the lowest first. */
        int speechAt(int i) {
            return i >= 0 && i < speeches && i < listed.length ? listed[i] : NONE;
        }

        int wordsOf(int speech) {
            return speech >= 0 && speech < wordCounts.length ? wordCounts[speech] : 0;
        }

        long word(int speech, int place) {
            if (speech < 0 || speech >= SPEECHES || place < 0 || place >= wordsOf(speech)) {
                return 0;
            }
            int at = MOST_WORDS * speech + place;
            return at < words.length ? words[at] : 0;
        }

        long lastWord(int speech) {
            return word(speech, wordsOf(speech) - 1);
        }

        long lastButOne(int speech) {
            return word(speech, wordsOf(speech) - 2);
        }

        int cueWordsOf(int speech) {
            return speech >= 0 && speech < cueWords.length ? cueWords[speech] : 0;
        }

        long cueWord(int speech, int place) {
            if (speech < 0 || speech >= SPEECHES || place < 0 || place >= cueWordsOf(speech)) {
                return 0;
            }
            int at = MOST_CUE * speech + place;
            return at < cues.length ? cues[at] : 0;
        }

        long lastCueWord(int speech) {
            return cueWord(speech, cueWordsOf(speech) - 1);
        }

        long lastCueWordButOne(int speech) {
            return cueWord(speech, cueWordsOf(speech) - 2);
        }

        int habitOf(int roll) {
            return hasRoll(roll) ? habits[roll] : NONE;
        }

        void setHabit(int roll, int habit) {
            if (hasRoll(roll)) {
                habits[roll] = habit;
            }
        }

        int add(RollReader reader) {
            if (reader == null || number < 0 || number >= MOST) {
                return NONE;
            }
            for (int item = 0; item < reader.items() && item < MOST_ITEMS; item++) {
                fill(PLACES * number + item, reader, item);
                if (speeches >= 0 && speeches < listed.length) {
                    listed[speeches] = PLACES * number + item;
                    speeches++;
                }
            }
            sizes[number] = reader.items();
            habits[number] = NONE;
            number++;
            changes++;
            return number - 1;
        }

        private void fill(int speech, RollReader reader, int item) {
            if (speech < 0 || speech >= SPEECHES) {
                return;
            }
            cueWords[speech] = reader.cueWordsOf(item);
            for (int i = 0; i < MOST_CUE; i++) {
                cues[MOST_CUE * speech + i] = reader.cueWord(item, i);
            }
            wordCounts[speech] = reader.wordsOf(item);
            for (int i = 0; i < MOST_WORDS; i++) {
                words[MOST_WORDS * speech + i] = reader.word(item, i);
            }
        }

        void cutTo(int kept) {
            if (kept < 0 || kept >= number) {
                return;
            }
            for (int roll = kept; roll < number && roll < sizes.length; roll++) {
                speeches -= sizes[roll];
            }
            number = kept;
            changes++;
        }
    }

    /** What cues are to speeches. */
    private static final class Cues {
        static final int NOTHING = 0;
        static final int MET = 1;
        static final int DOUBLE = 2;
        static final int OWN = 3;
        static final int SLIPPED = 4;
        static final int LOST = 5;
        private static final int MOST_LIMIT = 8;
        private static final int LINE = Rolls.MOST_CUE * (Words.MOST_LETTERS + 1);
        private final Rolls rolls;
        private final int[] cueLine;
        private final int[] endLine;
        private final int[] costs;
        private final boolean[] lost;
        private final int[] neighbours;
        private int limit;

        Cues(Rolls all) {
            rolls = all;
            cueLine = new int[LINE];
            endLine = new int[LINE];
            costs = new int[LINE + 1];
            lost = new boolean[Rolls.MOST_SPEECHES];
            neighbours = new int[Rolls.MOST];
            limit = 1;
        }

        int limitNow() {
            return limit;
        }

        boolean setLimit(int v) {
            if (v < 0 || v > MOST_LIMIT) {
                return false;
            }
            limit = v;
            return true;
        }

        /** Whether the cue of a speech ends another one. */
        boolean closes(int speech, int other) {
            int cue = rolls.cueWordsOf(speech);
            int from = rolls.wordsOf(other) - cue;
            if (cue == 0 || from < 0) {
                return false;
            }
            for (int i = 0; i < cue; i++) {
                if (rolls.cueWord(speech, i) != rolls.word(other, from + i)) {
                    return false;
                }
            }
            return true;
        }

        int distance(int speech, int other) {
            int cue = rolls.cueWordsOf(speech);
            int ours = 0;
            for (int i = 0; i < cue; i++) {
                ours = laid(cueLine, ours, rolls.cueWord(speech, i));
            }
            int theirs = 0;
            int all = rolls.wordsOf(other);
            for (int i = Math.max(0, all - cue); i < all; i++) {
                theirs = laid(endLine, theirs, rolls.word(other, i));
            }
            return changesBetween(ours, theirs);
        }

        /** Lays a word into a line, behind a blank (0) if it is not its first; how long it is then. */
        private static int laid(int[] line, int from, long word) {
            int at = from;
            if (from > 0 && from < line.length) {
                line[at] = 0;
                at++;
            }
            for (int behind = Words.letters(word) - 1; behind >= 0; behind--) {
                if (at >= 0 && at < line.length) {
                    line[at] = Words.letter(word, behind);
                    at++;
                }
            }
            return at;
        }

        private int changesBetween(int ours, int theirs) {
            if (ours > cueLine.length || theirs >= costs.length || theirs > endLine.length || theirs < 0) {
                return 0;
            }
            for (int j = 0; j <= theirs; j++) {
                costs[j] = j;
            }
            for (int i = 0; i < ours; i++) {
                int slanted = costs[0];
                costs[0] = i + 1;
                for (int j = 0; j < theirs; j++) {
                    int changed = slanted + (cueLine[i] == endLine[j] ? 0 : 1);
                    slanted = costs[j + 1];
                    costs[j + 1] = Math.min(changed, 1 + Math.min(costs[j], costs[j + 1]));
                }
            }
            return costs[theirs];
        }

        int kindOf(int speech, int some) {
            if (rolls.cueWordsOf(speech) == 0) {
                return NOTHING;
            }
            int met = metBy(speech, some);
            if (met > 0) {
                return met == 1 ? MET : DOUBLE;
            }
            if (isOwn(speech)) {
                return OWN;
            }
            return slips(speech, some) ? SLIPPED : LOST;
        }

        /** How many speeches of the others the cue of a speech ends. */
        private int metBy(int speech, int some) {
            int others = some & ~(1 << Rolls.rollOf(speech));
            int met = 0;
            for (int i = 0; i < rolls.speeches(); i++) {
                int other = rolls.speechAt(i);
                if (Rolls.isOf(other, others) && closes(speech, other)) {
                    met++;
                }
            }
            return met;
        }

        private boolean isOwn(int speech) {
            for (int ahead = speech - speech % Rolls.PLACES; ahead < speech; ahead++) {
                if (closes(speech, ahead)) {
                    return true;
                }
            }
            return false;
        }

        private boolean slips(int speech, int some) {
            int others = some & ~(1 << Rolls.rollOf(speech));
            for (int i = 0; i < rolls.speeches(); i++) {
                int other = rolls.speechAt(i);
                if (Rolls.isOf(other, others) && distance(speech, other) <= limit) {
                    return true;
                }
            }
            return false;
        }

        int howManyOfKind(int some, int kind) {
            int number = 0;
            for (int i = 0; i < rolls.speeches(); i++) {
                int speech = rolls.speechAt(i);
                if (Rolls.isOf(speech, some) && kindOf(speech, some) == kind) {
                    number++;
                }
            }
            return number;
        }

        /** The speech of the others that is least far from the cue of a speech; NONE: no others. */
        int leastFar(int speech, int some) {
            int others = some & ~(1 << Rolls.rollOf(speech));
            int nearest = NONE;
            int least = 0;
            for (int i = 0; i < rolls.speeches(); i++) {
                int other = rolls.speechAt(i);
                if (Rolls.isOf(other, others)) {
                    int far = distance(speech, other);
                    if (nearest == NONE || far < least) {
                        nearest = other;
                        least = far;
                    }
                }
            }
            return nearest;
        }

        int wordsAtLeast(int some) {
            int sum = 0;
            for (int i = 0; i < rolls.speeches() && i < lost.length; i++) {
                int speech = rolls.speechAt(i);
                boolean among = Rolls.isOf(speech, some);
                lost[i] = among && kindOf(speech, some) == LOST;
                if (among) {
                    sum += rolls.wordsOf(speech);
                }
                if (lost[i] && !wasLost(i)) {
                    sum += rolls.cueWordsOf(speech);
                }
            }
            return sum;
        }

        /** Whether a speech listed ahead of one has a lost cue that is alike. */
        private boolean wasLost(int listed) {
            for (int i = 0; i < listed && i < lost.length; i++) {
                if (lost[i] && alike(rolls.speechAt(i), rolls.speechAt(listed))) {
                    return true;
                }
            }
            return false;
        }

        private boolean alike(int one, int other) {
            int cue = rolls.cueWordsOf(one);
            if (cue != rolls.cueWordsOf(other)) {
                return false;
            }
            for (int i = 0; i < cue; i++) {
                if (rolls.cueWord(one, i) != rolls.cueWord(other, i)) {
                    return false;
                }
            }
            return true;
        }

        /** The rolls that met cues join with a roll, itself too, as bits. */
        int joined(int roll) {
            int all = (1 << rolls.number()) - 1;
            for (int i = 0; i < Rolls.MOST; i++) {
                neighbours[i] = 0;
            }
            for (int i = 0; i < rolls.speeches(); i++) {
                int speech = rolls.speechAt(i);
                if (metBy(speech, all) == 1) {
                    join(Rolls.rollOf(speech), Rolls.rollOf(lowestMet(speech)));
                }
            }
            int joined = 1 << roll;
            for (int i = 0; i < Rolls.MOST; i++) {
                for (int each = 0; each < Rolls.MOST; each++) {
                    joined |= Rolls.isIn(each, joined) ? neighbours[each] : 0;
                }
            }
            return joined;
        }

        private void join(int one, int other) {
            if (one >= 0 && one < neighbours.length && other >= 0 && other < neighbours.length) {
                neighbours[one] |= 1 << other;
                neighbours[other] |= 1 << one;
            }
        }

        /** The lowest speech of another roll that the cue of a speech ends; the speech itself: none. */
        private int lowestMet(int speech) {
            for (int i = 0; i < rolls.speeches(); i++) {
                int other = rolls.speechAt(i);
                if (Rolls.rollOf(other) != Rolls.rollOf(speech) && closes(speech, other)) {
                    return other;
                }
            }
            return speech;
        }

        int settledBy(int roll, int some) {
            int settled = 0;
            for (int i = 0; i < rolls.speeches(); i++) {
                int speech = rolls.speechAt(i);
                if (Rolls.isOf(speech, some) && isLoose(speech, some) && metBy(speech, 1 << roll) > 0) {
                    settled++;
                }
            }
            return settled;
        }

        /** Whether a cue is slipped or lost among some rolls. */
        private boolean isLoose(int speech, int some) {
            return rolls.hasCue(speech) && metBy(speech, some) == 0 && !isOwn(speech);
        }

        int settlesMost(int some) {
            int best = NONE;
            int most = 0;
            for (int roll = 0; roll < rolls.number(); roll++) {
                if (!Rolls.isIn(roll, some)) {
                    int settled = settledBy(roll, some);
                    if (best == NONE || settled > most) {
                        best = roll;
                        most = settled;
                    }
                }
            }
            return best;
        }

        /** Where a cue of two words first stands in a speech, but not at its end. */
        int within(int speech, int other) {
            if (rolls.cueWordsOf(speech) != 2) {
                return NONE;
            }
            for (int place = 0; place < rolls.wordsOf(other) - 2; place++) {
                if (rolls.word(other, place) == rolls.cueWord(speech, 0)
                        && rolls.word(other, place + 1) == rolls.cueWord(speech, 1)) {
                    return place;
                }
            }
            return NONE;
        }

        int temptations(int some) {
            int pairs = 0;
            for (int i = 0; i < rolls.speeches(); i++) {
                int speech = rolls.speechAt(i);
                if (Rolls.isOf(speech, some)) {
                    pairs += temptedIn(speech, some & ~(1 << Rolls.rollOf(speech)));
                }
            }
            return pairs;
        }

        private int temptedIn(int speech, int others) {
            int pairs = 0;
            for (int i = 0; i < rolls.speeches(); i++) {
                int other = rolls.speechAt(i);
                if (Rolls.isOf(other, others) && within(speech, other) != NONE) {
                    pairs++;
                }
            }
            return pairs;
        }
    }

    /**
     * The orders of some rolls with the fewest gaps. A state is how many speeches of each roll are said;
     * for each state and the roll that spoke last a slot tells how few gaps are still to come, and in how
     * many ways. What was counted last is kept until the rolls change.
     */
    private static final class Orders {
        private static final int MOST_SPEECHES = 20;
        private static final int MOST_STATES = 20000;
        private static final int MOST_SLOTS = MOST_STATES * Rolls.MOST + 1;
        /** What stands ahead of the first speech, as if it were one speech more. */
        private static final int START = MOST_SPEECHES;
        private static final int FAR_TOO_MANY = 1000;
        private static final int GAP_BITS = 5;
        private final Rolls rolls;
        private final Cues cues;
        private final int[] roll;
        private final int[] size;
        private final int[] stride;
        private final int[] offset;
        private final int[] follows;
        private final int[] said;
        private final int[] toCome;
        private final int[] heeds;
        private final long[] ways;
        private final long[] pairs;
        private int among;
        private int states;
        private int known;
        private int knownAt;
        private boolean pairsKnown;
        private long[] slots;
        private long[] reached;

        Orders(Rolls all, Cues allCues) {
            rolls = all;
            cues = allCues;
            roll = new int[Rolls.MOST];
            size = new int[Rolls.MOST];
            stride = new int[Rolls.MOST];
            offset = new int[Rolls.MOST];
            follows = new int[MOST_SPEECHES];
            said = new int[Rolls.MOST];
            toCome = new int[Rolls.MOST];
            heeds = new int[Rolls.MOST];
            ways = new long[Rolls.MOST];
            pairs = new long[(MOST_SPEECHES + 1) * MOST_SPEECHES];
            among = 0;
            states = 0;
            known = 0;
            knownAt = 0;
            pairsKnown = false;
            slots = new long[0];
            reached = new long[0];
        }

        /** Whether there are some rolls and their orders are told; if so, they are counted then. */
        boolean areTold(int some) {
            if (!rolls.haveAll(some)) {
                return false;
            }
            if (known == some && knownAt == rolls.changes()) {
                return true;
            }
            known = 0;
            if (!layOut(some)) {
                return false;
            }
            seeWhatFollows();
            makeRoom();
            countBack();
            known = some;
            knownAt = rolls.changes();
            pairsKnown = false;
            return true;
        }

        /** Takes the rolls one by one; false: they have too many speeches or states. */
        private boolean layOut(int some) {
            among = 0;
            states = 1;
            int speeches = 0;
            for (int next = 0; next < Rolls.MOST; next++) {
                if (Rolls.isIn(next, some) && among < Rolls.MOST) {
                    roll[among] = next;
                    size[among] = rolls.sizeOf(next);
                    stride[among] = states;
                    offset[among] = speeches;
                    speeches += size[among];
                    states *= size[among] + 1;
                    among++;
                }
            }
            return speeches <= MOST_SPEECHES && states <= MOST_STATES;
        }

        private int speeches() {
            return among > 0 && among <= Rolls.MOST ? offset[among - 1] + size[among - 1] : 0;
        }

        /** For each speech those behind which it follows, as bits. */
        private void seeWhatFollows() {
            for (int r = 0; r < among; r++) {
                for (int place = 0; place < size[r]; place++) {
                    int next = offset[r] + place;
                    int speech = Rolls.PLACES * roll[r] + place;
                    if (next < follows.length) {
                        follows[next] = rolls.hasCue(speech) ? endedBy(speech) : 1 << START;
                    }
                }
            }
        }

        /** The speeches of the other rolls here that the cue of a speech ends, as bits. */
        private int endedBy(int speech) {
            int ended = 0;
            for (int r = 0; r < among; r++) {
                for (int place = 0; place < size[r]; place++) {
                    int other = Rolls.PLACES * roll[r] + place;
                    if (Rolls.rollOf(speech) != roll[r] && cues.closes(speech, other)) {
                        ended |= 1 << offset[r] + place;
                    }
                }
            }
            return ended;
        }

        private int startSlot() {
            return states * among;
        }

        private int slotBehind(int state, int r) {
            return (state + stride[r]) * among + r;
        }

        private int gapsAt(int slot) {
            return slot >= 0 && slot < slots.length ? (int) (slots[slot] & (1 << GAP_BITS) - 1) : 0;
        }

        private long waysAt(int slot) {
            return slot >= 0 && slot < slots.length ? slots[slot] >>> GAP_BITS : 0;
        }

        /** Grows the tables by doubling, so that all that a run makes stays small. */
        private void makeRoom() {
            int needed = startSlot() + 1;
            if (needed > slots.length && needed <= MOST_SLOTS) {
                slots = new long[Math.max(needed, Math.min(2 * slots.length, MOST_SLOTS))];
            }
        }

        private void countBack() {
            for (int r = 0; r < among; r++) {
                said[r] = size[r];
            }
            for (int state = states - 1; state > 0; state--) {
                lookAhead(state);
                for (int r = 0; r < among; r++) {
                    if (said[r] > 0) {
                        settle(offset[r] + said[r] - 1, state * among + r);
                    }
                }
                stepBack();
            }
            lookAhead(0);
            settle(START, startSlot());
        }

        /** The state that is one less: the first roll's speeches change fastest. */
        private void stepBack() {
            for (int r = 0; r < among; r++) {
                if (said[r] > 0) {
                    said[r]--;
                    return;
                }
                said[r] = size[r];
            }
        }

        private void stepOn() {
            for (int r = 0; r < among; r++) {
                if (said[r] < size[r]) {
                    said[r]++;
                    return;
                }
                said[r] = 0;
            }
        }

        private void clearSaid() {
            for (int r = 0; r < said.length; r++) {
                said[r] = 0;
            }
        }

        /** Of each roll's next speech: the gaps to come if it does not follow, the ways, what it follows. */
        private void lookAhead(int state) {
            for (int r = 0; r < among; r++) {
                int next = offset[r] + said[r];
                toCome[r] = FAR_TOO_MANY;
                if (said[r] < size[r] && next < follows.length) {
                    int slot = slotBehind(state, r);
                    toCome[r] = 1 + gapsAt(slot);
                    ways[r] = waysAt(slot);
                    heeds[r] = follows[next];
                }
            }
        }

        private int gapsIfNext(int r, int last) {
            return toCome[r] < FAR_TOO_MANY ? toCome[r] - (heeds[r] >> last & 1) : FAR_TOO_MANY;
        }

        /** Fills a slot from those that may come next, behind the speech said last. */
        private void settle(int last, int slot) {
            int fewest = FAR_TOO_MANY;
            long number = 0;
            for (int r = 0; r < among; r++) {
                int gaps = gapsIfNext(r, last);
                if (gaps < fewest) {
                    fewest = gaps;
                    number = ways[r];
                } else if (gaps == fewest && gaps < FAR_TOO_MANY) {
                    number += ways[r];
                }
            }
            if (slot >= 0 && slot < slots.length) {
                slots[slot] = fewest == FAR_TOO_MANY ? 1L << GAP_BITS : number << GAP_BITS | fewest;
            }
        }

        int fewestGaps() {
            return gapsAt(startSlot());
        }

        long howManyBest() {
            return waysAt(startSlot());
        }

        /** The speech at a place of the first of the best orders. */
        int firstAt(int place) {
            if (place < 0 || place >= speeches()) {
                return NONE;
            }
            clearSaid();
            int state = 0;
            int last = START;
            int slot = startSlot();
            int speech = NONE;
            for (int i = 0; i <= place; i++) {
                int r = lowestBest(state, last, slot);
                speech = Rolls.PLACES * roll[r] + said[r];
                last = offset[r] + said[r];
                slot = slotBehind(state, r);
                state += stride[r];
                said[r]++;
            }
            return speech;
        }

        private int lowestBest(int state, int last, int slot) {
            lookAhead(state);
            for (int r = 0; r < among; r++) {
                if (gapsIfNext(r, last) == gapsAt(slot)) {
                    return r;
                }
            }
            return 0;
        }

        int certain(int one, int other) {
            if (!pairsKnown) {
                countPairs();
                pairsKnown = true;
            }
            int pair = MOST_SPEECHES * numberOf(one) + numberOf(other);
            long together = pair >= 0 && pair < pairs.length ? pairs[pair] : 0;
            if (together == 0) {
                return 0;
            }
            return together == howManyBest() ? 1 : NONE;
        }

        /** Which of the speeches here a speech is. */
        private int numberOf(int speech) {
            for (int r = 0; r < among; r++) {
                if (roll[r] == Rolls.rollOf(speech)) {
                    return offset[r] + speech % Rolls.PLACES;
                }
            }
            return 0;
        }

        /** Counts for each two speeches the best orders that have the one right ahead of the other. */
        private void countPairs() {
            clearPairs();
            clearSaid();
            lookAhead(0);
            spread(0, START, startSlot(), 1);
            for (int state = 1; state < states; state++) {
                stepOn();
                lookAhead(state);
                for (int r = 0; r < among; r++) {
                    int slot = state * among + r;
                    if (said[r] > 0 && slot < reached.length && reached[slot] > 0) {
                        spread(state, offset[r] + said[r] - 1, slot, reached[slot]);
                    }
                }
            }
        }

        private void clearPairs() {
            if (reached.length < slots.length) {
                reached = new long[slots.length];
            }
            for (int i = 0; i < reached.length; i++) {
                reached[i] = 0;
            }
            for (int i = 0; i < pairs.length; i++) {
                pairs[i] = 0;
            }
        }

        /** Hands the ways that lead to a slot on to the best that come next. */
        private void spread(int state, int last, int slot, long led) {
            for (int r = 0; r < among; r++) {
                if (gapsIfNext(r, last) == gapsAt(slot)) {
                    int next = slotBehind(state, r);
                    int pair = MOST_SPEECHES * last + offset[r] + said[r];
                    if (next < reached.length && pair < pairs.length) {
                        reached[next] += led;
                        pairs[pair] += led * ways[r];
                    }
                }
            }
        }
    }

    /** The play told by hand, and what is said when some rolls rehearse by their cues alone. */
    private static final class Stage {
        private static final int MOST = Rolls.MOST * Rolls.MOST_ITEMS;
        private final Rolls rolls;
        private final Cues cues;
        private final int[] play;
        private final int[] rehearsed;
        private final int[] waits;
        private int played;
        private int said;

        Stage(Rolls all, Cues allCues) {
            rolls = all;
            cues = allCues;
            play = new int[MOST];
            rehearsed = new int[MOST];
            waits = new int[Rolls.MOST];
            played = 0;
            said = 0;
        }

        int played() {
            return played;
        }

        int playedAt(int place) {
            return place >= 0 && place < played && place < play.length ? play[place] : NONE;
        }

        void cutTo(int kept) {
            if (kept >= 0 && kept < played) {
                played = kept;
            }
        }

        /** A roll's next speech is the play's next. */
        int goOn(int roll) {
            int next = 0;
            for (int place = 0; place < played; place++) {
                if (Rolls.rollOf(playedAt(place)) == roll) {
                    next++;
                }
            }
            if (next >= rolls.sizeOf(roll) || played < 0 || played >= play.length) {
                return NONE;
            }
            play[played] = Rolls.PLACES * roll + next;
            played++;
            return play[played - 1];
        }

        private boolean hasGapAhead(int place) {
            int speech = playedAt(place);
            if (place == 0) {
                return rolls.hasCue(speech);
            }
            int last = playedAt(place - 1);
            return Rolls.rollOf(last) == Rolls.rollOf(speech) || !cues.closes(speech, last);
        }

        /** The i-th place of the play with a gap ahead of it; i NONE: how many there are. */
        int gapOfPlay(int i) {
            int gaps = 0;
            for (int place = 0; place < played; place++) {
                if (hasGapAhead(place)) {
                    if (gaps == i) {
                        return place;
                    }
                    gaps++;
                }
            }
            return i == NONE ? gaps : NONE;
        }

        void rehearseAll(int some) {
            int ready = 0;
            for (int roll = 0; roll < waits.length; roll++) {
                waits[roll] = 0;
                if (Rolls.isIn(roll, some) && !rolls.hasCue(Rolls.PLACES * roll)) {
                    ready |= 1 << roll;
                }
            }
            said = 0;
            for (int i = 0; i < rehearsed.length && ready != 0; i++) {
                int roll = lowest(ready);
                rehearsed[i] = Rolls.PLACES * roll + waits[roll];
                said++;
                waits[roll]++;
                ready = ready & ~(1 << roll) | readyBehind(rehearsed[i], some & ~(1 << roll));
            }
        }

        private static int lowest(int ready) {
            for (int roll = 0; roll < Rolls.MOST; roll++) {
                if (Rolls.isIn(roll, ready)) {
                    return roll;
                }
            }
            return 0;
        }

        /** Which of some rolls wait with a cue that ends a speech. */
        private int readyBehind(int speech, int some) {
            int ready = 0;
            for (int roll = 0; roll < waits.length; roll++) {
                int waiting = Rolls.PLACES * roll + waits[roll];
                if (Rolls.isIn(roll, some) && waits[roll] < rolls.sizeOf(roll) && cues.closes(waiting, speech)) {
                    ready |= 1 << roll;
                }
            }
            return ready;
        }

        int said() {
            return said;
        }

        int saidAt(int place) {
            return place >= 0 && place < said && place < rehearsed.length ? rehearsed[place] : NONE;
        }

        /** In how many places of the play another speech, or none, was said. */
        int saidOtherwise() {
            int places = 0;
            for (int place = 0; place < played; place++) {
                if (saidAt(place) != playedAt(place)) {
                    places++;
                }
            }
            return places;
        }
    }

    /** The plots told, and coats for their parts. */
    private static final class Plots {
        static final int MOST_SCENES = 20;
        static final int PARTS = 10;
        private static final int MOST = 4;
        private static final int MOST_CHANGE = 3;
        private static final int MOST_CREW = 10;
        private final int[] parts;
        private final int[] sizes;
        private final int[] near;
        private final int[] clashes;
        private final int[] coats;
        private int number;
        private int boys;

        Plots() {
            parts = new int[MOST * MOST_SCENES];
            sizes = new int[MOST];
            near = new int[PARTS];
            clashes = new int[PARTS];
            coats = new int[PARTS];
            number = 0;
            boys = 0;
        }

        static boolean isChange(int change) {
            return change >= 0 && change <= MOST_CHANGE;
        }

        static boolean isCrew(int crew) {
            return crew >= 0 && crew <= MOST_CREW;
        }

        int number() {
            return number;
        }

        int boysNow() {
            return boys;
        }

        boolean setBoys(int bits) {
            if (bits < 0 || bits >= 1 << PARTS) {
                return false;
            }
            boys = bits;
            return true;
        }

        int add(PlotReader reader) {
            if (reader == null || number < 0 || number >= MOST) {
                return NONE;
            }
            for (int scene = 0; scene < reader.scenes() && scene < MOST_SCENES; scene++) {
                parts[MOST_SCENES * number + scene] = reader.partsIn(scene);
            }
            sizes[number] = reader.scenes();
            number++;
            return number - 1;
        }

        boolean has(int plot) {
            return plot >= 0 && plot < number && plot < MOST;
        }

        private int sizeOf(int plot) {
            return plot >= 0 && plot < number && plot < sizes.length ? sizes[plot] : 0;
        }

        /** The parts in a scene, as bits; NONE: no such scene. */
        int partsIn(int plot, int scene) {
            if (scene < 0 || scene >= sizeOf(plot)) {
                return NONE;
            }
            int at = MOST_SCENES * plot + scene;
            return at < parts.length ? parts[at] : NONE;
        }

        int partsOf(int plot) {
            int all = 0;
            for (int scene = 0; scene < sizeOf(plot); scene++) {
                all |= partsIn(plot, scene);
            }
            return all;
        }

        boolean hasPart(int plot, int part) {
            return part >= 0 && part < PARTS && isIn(part, partsOf(plot));
        }

        private static boolean isIn(int part, int bits) {
            return (bits >> part & 1) != 0;
        }

        int fullest(int plot) {
            int fullest = 0;
            int most = 0;
            for (int scene = 0; scene < sizeOf(plot); scene++) {
                int number = Integer.bitCount(partsIn(plot, scene));
                if (number > most) {
                    fullest = scene;
                    most = number;
                }
            }
            return fullest;
        }

        boolean bar(int plot, int one, int other, int change) {
            layNear(plot, change);
            return isIn(one, boys) == isIn(other, boys) && one >= 0 && one < near.length && isIn(other, near[one]);
        }

        /** For each part those in scenes that are no more than a change from one of its own, as bits. */
        private void layNear(int plot, int change) {
            for (int part = 0; part < near.length; part++) {
                near[part] = 0;
            }
            int last = sizeOf(plot) - 1;
            for (int scene = 0; scene <= last; scene++) {
                int around = 0;
                int until = Math.min(last, scene + change);
                for (int other = Math.max(0, scene - change); other <= until; other++) {
                    around |= partsIn(plot, other);
                }
                int here = partsIn(plot, scene);
                for (int part = 0; part < near.length; part++) {
                    near[part] |= isIn(part, here) ? around : 0;
                }
            }
        }

        /** For each part those that may not have its coat, as bits. */
        private void layClashes(int plot, int change) {
            layNear(plot, change);
            for (int part = 0; part < near.length && part < clashes.length; part++) {
                clashes[part] = near[part] | (isIn(part, boys) ? ~boys : boys);
            }
        }

        /** Gives each part of a plot its coat; how many coats that needs. */
        int dressAll(int plot, int change) {
            layClashes(plot, change);
            return fewestCoats(partsOf(plot));
        }

        int coatOf(int part) {
            return part >= 0 && part < coats.length ? coats[part] : NONE;
        }

        boolean suffice(int plot, int change, int men, int forBoys) {
            layClashes(plot, change);
            int all = partsOf(plot);
            return fewestCoats(all & ~boys) <= men && fewestCoats(all & boys) <= forBoys;
        }

        private int fewestCoats(int some) {
            for (int most = 0; most <= PARTS; most++) {
                if (dress(clashes, coats, some, 0, 0, most)) {
                    return most;
                }
            }
            return NONE;
        }

        /** Dresses some parts from one on, the lowest coats first, when so many coats are worn already. */
        private static boolean dress(int[] clashes, int[] coats, int some, int part, int worn, int most) {
            if (part >= coats.length || part >= clashes.length) {
                return true;
            }
            if (!isIn(part, some)) {
                return dress(clashes, coats, some, part + 1, worn, most);
            }
            for (int coat = 0; coat <= worn && coat < most; coat++) {
                if (isFree(coats, some & clashes[part], part, coat)) {
                    coats[part] = coat;
                    if (dress(clashes, coats, some, part + 1, Math.max(worn, coat + 1), most)) {
                        return true;
                    }
                }
            }
            return false;
        }

        /** Whether none of some parts lower than one has a coat. */
        private static boolean isFree(int[] coats, int some, int part, int coat) {
            for (int lower = 0; lower < part && lower < coats.length; lower++) {
                if (isIn(lower, some) && coats[lower] == coat) {
                    return false;
                }
            }
            return true;
        }
    }
}
