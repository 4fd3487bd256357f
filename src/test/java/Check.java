import java.util.NoSuchElementException;

/** What the tests share: texts fed to the tape, answers compared, misses counted. */
final class Check {
    private final String name;
    private int right;
    private int missed;

    Check(String name) {
        this.name = name;
    }

    void due(String call, long got, long want) {
        if (got == want) {
            right++;
            return;
        }
        missed++;
        if (missed <= 40) {
            System.out.println(name + ": " + call + " answered " + got + ", due is " + want);
        }
    }

    void due(String call, boolean got, boolean want) {
        due(call, got ? 1 : 0, want ? 1 : 0);
    }

    void throwsNoSuch(String call, CueRolls x, int speech, int what) {
        long got = 0;
        try {
            x.speech(speech, what);
        } catch (NoSuchElementException e) {
            got = 1;
        }
        due(call + " throws NoSuchElementException", got, 1);
    }

    /** Ends the test: exit code 1 if there was a miss. */
    void close() {
        System.out.println(name + ": " + right + " answers are as due, " + missed + " are not");
        if (missed != 0 || right == 0) {
            System.exit(1);
        }
    }

    /** Feeds a text behind what the tape has, twenty bytes at a time. */
    static int feed(CueRolls x, String text) {
        int size = x.count(4);
        for (int from = 0; from < text.length(); from += 20) {
            size = x.feed(four(text, from), four(text, from + 4), four(text, from + 8),
                    four(text, from + 12), four(text, from + 16));
        }
        return size;
    }

    static int four(String text, int from) {
        int four = 0;
        for (int i = from; i < from + 4; i++) {
            four = four << 8 | (i < text.length() ? text.charAt(i) & 255 : 0);
        }
        return four;
    }

    /** The tape has this text alone. */
    static void tape(CueRolls x, String text) {
        x.end(0);
        feed(x, text);
    }

    static int fault(int sort, String text) {
        CueRolls x = new CueRolls();
        tape(x, text);
        return x.fault(sort);
    }

    static int tell(CueRolls x, int sort, String text) {
        tape(x, text);
        return x.text(sort);
    }

    static CueRolls withRolls(String... texts) {
        CueRolls x = new CueRolls();
        for (String text : texts) {
            tell(x, 0, text);
        }
        return x;
    }

    static CueRolls withPlots(String... texts) {
        CueRolls x = new CueRolls();
        for (String text : texts) {
            tell(x, 1, text);
        }
        return x;
    }
}
