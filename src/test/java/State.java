import java.util.NoSuchElementException;

/** All that can be seen of an object: two that have lived alike show the same. It may not be used behind this. */
final class State {
    private final CueRolls x;
    private final StringBuilder seen = new StringBuilder();

    private State(CueRolls x) {
        this.x = x;
    }

    static String of(CueRolls x) {
        State state = new State(x);
        state.counts();
        state.rolls();
        state.play();
        state.plots();
        state.tape();
        state.kept();
        return state.seen.toString();
    }

    private void add(String what, long value) {
        seen.append(what).append('=').append(value).append(' ');
    }

    private void counts() {
        for (int what = 0; what < 7; what++) {
            add("count" + what, x.count(what));
        }
    }

    private void rolls() {
        int all = (1 << x.count(0)) - 1;
        for (int roll = 0; roll < x.count(0); roll++) {
            for (int place = 0; place < x.many(roll); place++) {
                speech(16 * roll + place);
                add("kind", x.kind(16 * roll + place, all));
                for (int other = 0; other < x.count(0); other++) {
                    add("likely", x.likely(16 * roll + place, other));
                }
            }
            for (int habit = 0; habit < x.count(2); habit++) {
                add("worth", x.worth(roll, habit));
            }
        }
    }

    private void speech(int speech) {
        for (int what = 0; what < 3; what++) {
            try {
                add("speech" + speech, x.speech(speech, what));
            } catch (NoSuchElementException e) {
                add("no speech", speech);
            }
        }
    }

    private void play() {
        for (int place = -1; place <= x.play(-1); place++) {
            add("play", x.play(place));
        }
    }

    private void plots() {
        for (int plot = 0; plot < x.count(1); plot++) {
            for (int scene = 0; x.plot(plot, scene) >= 0; scene++) {
                add("plot", x.plot(plot, scene));
            }
        }
    }

    /** What the tape has shows in what is told of it. */
    private void tape() {
        for (int sort = 0; sort < 3; sort++) {
            add("fault", x.fault(sort));
        }
        int roll = x.text(0);
        add("text", roll);
        for (int place = 0; roll >= 0 && place < x.many(roll); place++) {
            speech(16 * roll + place);
            add("ends", x.ends(16 * roll + place, 0));
            add("worth", x.worth(roll, 0));
        }
    }

    private void kept() {
        add("back", x.back());
        add("rolls", x.count(0));
        add("play", x.play(-1));
    }
}
