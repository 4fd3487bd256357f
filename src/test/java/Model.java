import java.util.ArrayList;
import java.util.Arrays;
import java.util.HashMap;
import java.util.LinkedHashSet;
import java.util.List;
import java.util.Map;
import java.util.NoSuchElementException;
import java.util.Set;
import java.util.TreeSet;

/**
 * The document once more, slowly and in another way: texts as strings, orders by trying all, coats by
 * counting through all. It knows nothing of the class that it is compared with.
 */
final class Model {
    record Speech(int roll, int place, List<String> cue, List<String> words) {
        int number() {
            return 16 * roll + place;
        }
    }

    String tape = "";
    final List<List<Speech>> rolls = new ArrayList<>();
    final List<Integer> habitOf = new ArrayList<>();
    final List<List<Set<Integer>>> plots = new ArrayList<>();
    final List<String> habits = new ArrayList<>();
    List<Integer> play = new ArrayList<>();
    int limit = 1;
    int boys = 0;
    int keptRolls = 0;
    int keptPlay = 0;

    // ---- texts

    int feed(int a, int b, int c, int d, int e) {
        StringBuilder more = new StringBuilder();
        for (int number : new int[] {a, b, c, d, e}) {
            for (String hex : String.format("%08x", number).split("(?<=\\G..)")) {
                int b8 = Integer.parseInt(hex, 16);
                if (b8 != 0) {
                    more.append((char) b8);
                }
            }
        }
        if (tape.length() + more.length() > 200) {
            return -1;
        }
        tape += more;
        return tape.length();
    }

    boolean end(int n) {
        if (n < 0 || n > tape.length()) {
            return false;
        }
        tape = tape.substring(0, n);
        return true;
    }

    int fault(int sort) {
        return sort < 0 || sort > 2 ? -2 : Earley.fault(sort, tape);
    }

    int text(int sort) {
        if (fault(sort) != -1) {
            return -1;
        }
        int number;
        if (sort == 0) {
            if (rolls.size() == 8) {
                return -1;
            }
            number = rolls.size();
            List<Speech> roll = new ArrayList<>();
            for (String item : tape.split(";")) {
                String[] two = item.split(">");
                String cue = two[0].trim();
                List<String> words = Arrays.asList(two[1].trim().split(" +"));
                List<String> cueWords = cue.equals("-") ? List.of() : Arrays.asList(cue.split(" +"));
                roll.add(new Speech(number, roll.size(), cueWords, words));
            }
            rolls.add(roll);
            habitOf.add(-1);
        } else if (sort == 1) {
            if (plots.size() == 4) {
                return -1;
            }
            number = plots.size();
            List<Set<Integer>> plot = new ArrayList<>();
            for (String scene : tape.split("/")) {
                Set<Integer> parts = new TreeSet<>();
                for (char c : scene.replace(" ", "").toCharArray()) {
                    parts.add(c - 'a');
                }
                plot.add(parts);
            }
            plots.add(plot);
        } else {
            if (habits.size() == 4) {
                return -1;
            }
            number = habits.size();
            habits.add(tape.replace(" ", ""));
        }
        tape = "";
        return number;
    }

    // ---- speeches

    Speech find(int number) {
        for (List<Speech> roll : rolls) {
            for (Speech speech : roll) {
                if (speech.number() == number) {
                    return speech;
                }
            }
        }
        return null;
    }

    /** The rolls told as bits; null: no such ones. */
    List<Integer> some(int bits) {
        List<Integer> some = new ArrayList<>();
        for (int i = 0; i < 32; i++) {
            if ((bits >>> i & 1) == 1) {
                if (i >= rolls.size()) {
                    return null;
                }
                some.add(i);
            }
        }
        return some.isEmpty() ? null : some;
    }

    List<Speech> speechesOf(List<Integer> some) {
        List<Speech> all = new ArrayList<>();
        for (int roll : some) {
            all.addAll(rolls.get(roll));
        }
        return all;
    }

    int speech(int number, int what) {
        Speech s = find(number);
        if (s == null || what < 0 || what > 2) {
            throw new NoSuchElementException();
        }
        return what == 0 ? s.words.size() : what == 1 ? s.cue.size() : s.words.get(s.words.size() - 1).length();
    }

    int many(int roll) {
        return roll < 0 || roll >= rolls.size() ? -1 : rolls.get(roll).size();
    }

    static boolean endsIt(Speech one, Speech other) {
        int from = other.words.size() - one.cue.size();
        return !one.cue.isEmpty() && from >= 0 && other.words.subList(from, other.words.size()).equals(one.cue);
    }

    int ends(int one, int other) {
        Speech s = find(one);
        Speech t = find(other);
        return s == null || t == null ? -1 : endsIt(s, t) ? 1 : 0;
    }

    static int farOf(Speech one, Speech other) {
        int from = Math.max(0, other.words.size() - one.cue.size());
        String a = String.join(" ", one.cue);
        String b = String.join(" ", other.words.subList(from, other.words.size()));
        int[][] d = new int[a.length() + 1][b.length() + 1];
        for (int i = 0; i <= a.length(); i++) {
            for (int j = 0; j <= b.length(); j++) {
                if (i == 0 || j == 0) {
                    d[i][j] = i + j;
                } else {
                    int change = d[i - 1][j - 1] + (a.charAt(i - 1) == b.charAt(j - 1) ? 0 : 1);
                    d[i][j] = Math.min(change, Math.min(d[i - 1][j], d[i][j - 1]) + 1);
                }
            }
        }
        return d[a.length()][b.length()];
    }

    int far(int one, int other) {
        Speech s = find(one);
        Speech t = find(other);
        return s == null || t == null || s.cue.isEmpty() ? -1 : farOf(s, t);
    }

    boolean limit(int v) {
        if (v < 0 || v > 8) {
            return false;
        }
        limit = v;
        return true;
    }

    int kindOf(Speech s, List<Integer> some) {
        if (s.cue.isEmpty()) {
            return 0;
        }
        List<Speech> others = speechesOf(some);
        others.removeIf(t -> t.roll == s.roll);
        long met = others.stream().filter(t -> endsIt(s, t)).count();
        if (met > 0) {
            return met == 1 ? 1 : 2;
        }
        if (rolls.get(s.roll).stream().anyMatch(t -> t.place < s.place && endsIt(s, t))) {
            return 3;
        }
        return others.stream().anyMatch(t -> farOf(s, t) <= limit) ? 4 : 5;
    }

    int kind(int number, int bits) {
        Speech s = find(number);
        List<Integer> some = some(bits);
        return s == null || some == null || !some.contains(s.roll) ? -1 : kindOf(s, some);
    }

    int kinds(int bits, int kind) {
        List<Integer> some = some(bits);
        if (some == null || kind < 0 || kind > 5) {
            return -1;
        }
        return (int) speechesOf(some).stream().filter(s -> kindOf(s, some) == kind).count();
    }

    int nearest(int number, int bits) {
        Speech s = find(number);
        List<Integer> some = some(bits);
        if (s == null || some == null || s.cue.isEmpty() || !some.contains(s.roll)) {
            return -1;
        }
        Speech best = null;
        for (Speech t : speechesOf(some)) {
            if (t.roll != s.roll && (best == null || farOf(s, t) < farOf(s, best))) {
                best = t;
            }
        }
        return best == null ? -1 : best.number();
    }

    // ---- orders

    List<Integer> told(int bits) {
        List<Integer> some = some(bits);
        if (some == null) {
            return null;
        }
        long product = 1;
        for (int roll : some) {
            product *= rolls.get(roll).size() + 1;
        }
        return speechesOf(some).size() <= 20 && product <= 20000 ? some : null;
    }

    static boolean gap(Speech last, Speech next) {
        if (last == null) {
            return !next.cue.isEmpty();
        }
        return last.roll == next.roll || !endsIt(next, last);
    }

    /** From places on: the fewest gaps to come and how often, with one pair of neighbours forbidden. */
    long[] bestFrom(List<Integer> some, int[] at, Speech last, int one, int other, Map<String, long[]> known) {
        String key = Arrays.toString(at) + (last == null ? "" : last.number());
        if (known.containsKey(key)) {
            return known.get(key);
        }
        long[] best = {1000, 0};
        boolean over = true;
        for (int i = 0; i < some.size(); i++) {
            List<Speech> roll = rolls.get(some.get(i));
            if (at[i] < roll.size()) {
                over = false;
                Speech next = roll.get(at[i]);
                if (last == null || last.number() != one || next.number() != other) {
                    at[i]++;
                    long[] rest = bestFrom(some, at, next, one, other, known);
                    at[i]--;
                    long gaps = rest[0] + (gap(last, next) ? 1 : 0);
                    if (gaps < best[0]) {
                        best = new long[] {gaps, 0};
                    }
                    if (gaps == best[0]) {
                        best[1] += rest[1];
                    }
                }
            }
        }
        if (over) {
            best = new long[] {0, 1};
        }
        known.put(key, best);
        return best;
    }

    long[] best(List<Integer> some, int one, int other) {
        return bestFrom(some, new int[some.size()], null, one, other, new HashMap<>());
    }

    int least(int bits) {
        List<Integer> some = told(bits);
        return some == null ? -1 : (int) best(some, -1, -1)[0];
    }

    long orders(int bits) {
        List<Integer> some = told(bits);
        return some == null ? -1 : best(some, -1, -1)[1];
    }

    int first(int bits, int place) {
        List<Integer> some = told(bits);
        if (some == null || place < 0 || place >= speechesOf(some).size()) {
            return -1;
        }
        Map<String, long[]> known = new HashMap<>();
        int[] at = new int[some.size()];
        long left = bestFrom(some, at, null, -1, -1, known)[0];
        Speech last = null;
        for (int p = 0; p <= place; p++) {
            for (int i = 0; i < some.size(); i++) {
                List<Speech> roll = rolls.get(some.get(i));
                if (at[i] < roll.size()) {
                    Speech next = roll.get(at[i]);
                    at[i]++;
                    long rest = bestFrom(some, at, next, -1, -1, known)[0];
                    if (rest + (gap(last, next) ? 1 : 0) == left) {
                        left = rest;
                        last = next;
                        break;
                    }
                    at[i]--;
                }
            }
        }
        return last.number();
    }

    int sure(int bits, int one, int other) {
        List<Integer> some = told(bits);
        Speech s = find(one);
        Speech t = find(other);
        if (some == null || s == null || t == null || one == other) {
            return -2;
        }
        if (!some.contains(s.roll) || !some.contains(t.roll)) {
            return -2;
        }
        long[] all = best(some, -1, -1);
        long[] without = best(some, one, other);
        if (without[0] > all[0] || without[1] == 0) {
            return 1;
        }
        return without[1] == all[1] ? 0 : -1;
    }

    // ---- what rolls tell of one another

    int length(int bits) {
        List<Integer> some = some(bits);
        if (some == null) {
            return -1;
        }
        int sum = 0;
        Set<List<String>> lost = new LinkedHashSet<>();
        for (Speech s : speechesOf(some)) {
            sum += s.words.size();
            if (kindOf(s, some) == 5) {
                lost.add(s.cue);
            }
        }
        for (List<String> cue : lost) {
            sum += cue.size();
        }
        return sum;
    }

    int one(int roll) {
        if (roll < 0 || roll >= rolls.size()) {
            return -1;
        }
        List<Integer> all = some((1 << rolls.size()) - 1);
        Set<Integer> joined = new TreeSet<>(Set.of(roll));
        for (boolean grown = true; grown;) {
            grown = false;
            for (Speech s : speechesOf(all)) {
                for (Speech t : speechesOf(all)) {
                    if (s.roll != t.roll && endsIt(s, t) && kindOf(s, all) == 1) {
                        if (joined.contains(s.roll) != joined.contains(t.roll)) {
                            joined.add(s.roll);
                            joined.add(t.roll);
                            grown = true;
                        }
                    }
                }
            }
        }
        int bits = 0;
        for (int each : joined) {
            bits += 1 << each;
        }
        return bits;
    }

    int settles(int roll, int bits) {
        List<Integer> some = some(bits);
        if (roll < 0 || roll >= rolls.size() || some == null || some.contains(roll)) {
            return -1;
        }
        List<Integer> with = new ArrayList<>(some);
        with.add(roll);
        int settled = 0;
        for (Speech s : speechesOf(some)) {
            int before = kindOf(s, some);
            int behind = kindOf(s, with);
            if ((before == 4 || before == 5) && (behind == 1 || behind == 2)) {
                settled++;
            }
        }
        return settled;
    }

    int next(int bits) {
        int best = -1;
        for (int roll = 0; some(bits) != null && roll < rolls.size(); roll++) {
            if (settles(roll, bits) >= 0 && (best < 0 || settles(roll, bits) > settles(best, bits))) {
                best = roll;
            }
        }
        return best;
    }

    // ---- the play

    int act(int roll) {
        if (roll < 0 || roll >= rolls.size()) {
            return -1;
        }
        for (Speech s : rolls.get(roll)) {
            if (!play.contains(s.number())) {
                play.add(s.number());
                return s.number();
            }
        }
        return -1;
    }

    int play(int place) {
        return place == -1 ? play.size() : place < 0 || place >= play.size() ? -1 : play.get(place);
    }

    int wrong(int i) {
        List<Integer> places = new ArrayList<>();
        for (int p = 0; p < play.size(); p++) {
            if (gap(p == 0 ? null : find(play.get(p - 1)), find(play.get(p)))) {
                places.add(p);
            }
        }
        return i == -1 ? places.size() : i < 0 || i >= places.size() ? -1 : places.get(i);
    }

    List<Integer> rehearsed(List<Integer> some) {
        List<Integer> said = new ArrayList<>();
        Map<Integer, Integer> waits = new HashMap<>();
        Set<Integer> ready = new TreeSet<>();
        for (int roll : some) {
            waits.put(roll, 0);
            if (rolls.get(roll).get(0).cue.isEmpty()) {
                ready.add(roll);
            }
        }
        while (!ready.isEmpty()) {
            int speaker = ready.iterator().next();
            ready.remove(speaker);
            Speech speech = rolls.get(speaker).get(waits.get(speaker));
            said.add(speech.number());
            waits.put(speaker, waits.get(speaker) + 1);
            for (int roll : some) {
                int at = waits.get(roll);
                if (roll != speaker && at < rolls.get(roll).size() && endsIt(rolls.get(roll).get(at), speech)) {
                    ready.add(roll);
                }
            }
        }
        return said;
    }

    int rehearse(int bits, int place) {
        List<Integer> some = some(bits);
        if (some == null) {
            return -1;
        }
        List<Integer> said = rehearsed(some);
        return place == -1 ? said.size() : place < 0 || place >= said.size() ? -1 : said.get(place);
    }

    int soon(int bits) {
        List<Integer> some = some(bits);
        if (some == null) {
            return -1;
        }
        List<Integer> said = rehearsed(some);
        int other = 0;
        for (int p = 0; p < play.size(); p++) {
            if (p >= said.size() || !said.get(p).equals(play.get(p))) {
                other++;
            }
        }
        return other;
    }

    static int insideOf(Speech s, Speech t) {
        for (int p = 0; s.cue.size() == 2 && p + 2 < t.words.size(); p++) {
            if (t.words.subList(p, p + 2).equals(s.cue)) {
                return p;
            }
        }
        return -1;
    }

    int inside(int one, int other) {
        Speech s = find(one);
        Speech t = find(other);
        return s == null || t == null || s.roll == t.roll ? -1 : insideOf(s, t);
    }

    int tempted(int bits) {
        List<Integer> some = some(bits);
        if (some == null) {
            return -1;
        }
        int pairs = 0;
        for (Speech s : speechesOf(some)) {
            for (Speech t : speechesOf(some)) {
                if (s.roll != t.roll && insideOf(s, t) >= 0) {
                    pairs++;
                }
            }
        }
        return pairs;
    }

    // ---- plots

    boolean boys(int parts) {
        if (parts < 0 || parts > 1023) {
            return false;
        }
        boys = parts;
        return true;
    }

    List<Set<Integer>> plotOf(int plot) {
        return plot < 0 || plot >= plots.size() ? null : plots.get(plot);
    }

    static Set<Integer> partsOf(List<Set<Integer>> plot) {
        Set<Integer> parts = new TreeSet<>();
        for (Set<Integer> scene : plot) {
            parts.addAll(scene);
        }
        return parts;
    }

    static int bits(Set<Integer> parts) {
        int bits = 0;
        for (int part : parts) {
            bits += 1 << part;
        }
        return bits;
    }

    int plot(int plot, int scene) {
        List<Set<Integer>> p = plotOf(plot);
        if (p == null || scene < -1 || scene >= p.size()) {
            return -1;
        }
        return bits(scene == -1 ? partsOf(p) : p.get(scene));
    }

    boolean isBoy(int part) {
        return (boys >> part & 1) == 1;
    }

    boolean bar(List<Set<Integer>> plot, int one, int other, int change) {
        boolean near = false;
        for (int i = 0; i < plot.size(); i++) {
            for (int j = 0; j < plot.size(); j++) {
                near |= plot.get(i).contains(one) && plot.get(j).contains(other) && Math.abs(i - j) <= change;
            }
        }
        return near && isBoy(one) == isBoy(other);
    }

    int bars(int plot, int one, int other, int change) {
        List<Set<Integer>> p = plotOf(plot);
        if (p == null || one == other || change < 0 || change > 3) {
            return -1;
        }
        if (!partsOf(p).contains(one) || !partsOf(p).contains(other)) {
            return -1;
        }
        return bar(p, one, other, change) ? 1 : 0;
    }

    /** The first of all ways to dress the parts with so many coats, counted through; null: none. */
    int[] dressed(List<Set<Integer>> plot, List<Integer> parts, int change, int coats) {
        int[] way = new int[parts.size()];
        if (coats == 0) {
            return parts.isEmpty() ? way : null;
        }
        while (true) {
            boolean fine = true;
            for (int i = 0; i < way.length && fine; i++) {
                for (int j = 0; j < i && fine; j++) {
                    int a = parts.get(i);
                    int b = parts.get(j);
                    fine = way[i] != way[j] || isBoy(a) == isBoy(b) && !bar(plot, a, b, change);
                }
            }
            if (fine) {
                return way;
            }
            int at = way.length - 1;
            while (at >= 0 && way[at] == coats - 1) {
                way[at] = 0;
                at--;
            }
            if (at < 0) {
                return null;
            }
            way[at]++;
        }
    }

    int need(List<Set<Integer>> plot, List<Integer> parts, int change) {
        int coats = 0;
        while (dressed(plot, parts, change, coats) == null) {
            coats++;
        }
        return coats;
    }

    int cast(int plot, int part, int change) {
        List<Set<Integer>> p = plotOf(plot);
        if (p == null || change < 0 || change > 3) {
            return -1;
        }
        List<Integer> parts = new ArrayList<>(partsOf(p));
        if (part != -1 && !parts.contains(part)) {
            return -1;
        }
        int need = need(p, parts, change);
        return part == -1 ? need : dressed(p, parts, change, need)[parts.indexOf(part)];
    }

    int crowd(int plot, int what) {
        List<Set<Integer>> p = plotOf(plot);
        if (p == null || what < 0 || what > 1) {
            return -1;
        }
        int best = 0;
        for (int i = 0; i < p.size(); i++) {
            if (p.get(i).size() > p.get(best).size()) {
                best = i;
            }
        }
        return what == 0 ? best : p.get(best).size();
    }

    int could(int plot, int change, int men, int forBoys) {
        List<Set<Integer>> p = plotOf(plot);
        if (p == null || change < 0 || change > 3 || men < 0 || men > 10 || forBoys < 0 || forBoys > 10) {
            return -1;
        }
        List<Integer> grown = new ArrayList<>(partsOf(p));
        List<Integer> young = new ArrayList<>(grown);
        grown.removeIf(this::isBoy);
        young.removeIf(part -> !isBoy(part));
        return need(p, grown, change) <= men && need(p, young, change) <= forBoys ? 1 : 0;
    }

    // ---- habits

    boolean habit(int roll, int habit) {
        if (roll < 0 || roll >= rolls.size() || habit < -1 || habit >= habits.size()) {
            return false;
        }
        habitOf.set(roll, habit);
        return true;
    }

    static int worthOf(String habit, List<String> words) {
        long worth = Valuer.worth(habit, words.get(words.size() - 1),
                words.size() > 1 ? words.get(words.size() - 2) : "");
        return (int) Math.max(0, Math.min(100, worth));
    }

    int worth(int roll, int habit) {
        if (roll < 0 || roll >= rolls.size() || habit < 0 || habit >= habits.size()) {
            return -1;
        }
        int sum = 0;
        for (Speech s : rolls.get(roll)) {
            sum += worthOf(habits.get(habit), s.words);
        }
        return sum;
    }

    int likely(int number, int roll) {
        Speech s = find(number);
        if (s == null || s.cue.isEmpty() || roll < 0 || roll >= rolls.size() || s.roll == roll) {
            return -1;
        }
        return habitOf.get(roll) == -1 ? -1 : worthOf(habits.get(habitOf.get(roll)), s.cue);
    }

    // ---- the rest

    int keep() {
        keptRolls = rolls.size();
        keptPlay = play.size();
        return keptRolls + keptPlay;
    }

    int back() {
        while (rolls.size() > keptRolls) {
            rolls.remove(rolls.size() - 1);
            habitOf.remove(habitOf.size() - 1);
        }
        play = new ArrayList<>(play.subList(0, keptPlay));
        return keptRolls + keptPlay;
    }

    int count(int what) {
        switch (what) {
            case 0: return rolls.size();
            case 1: return plots.size();
            case 2: return habits.size();
            case 3: return rolls.stream().mapToInt(List::size).sum();
            case 4: return tape.length();
            case 5: return limit;
            case 6: return boys;
            default: return -1;
        }
    }
}
