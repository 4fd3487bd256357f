import java.util.ArrayList;
import java.util.List;

/** Promises 14 to 17 by trying every order of a few rolls one by one: each place of the first, each two speeches. */
public final class OrdersTest {
    private static final String[] ENDS = {"a", "b", "c a", "b a", "c"};
    private final Check check;
    private long seed = 17;
    private CueRolls x;
    private List<String[]> cues;
    private List<String[]> speeches;
    private int[] sizes;
    private int some;
    private int least;
    private long best;
    private List<Integer> first;
    private long[][] pairs;

    private OrdersTest(Check check) {
        this.check = check;
    }

    private int draw(int bound) {
        seed = seed * 6364136223846793005L + 1442695040888963407L;
        return (int) ((seed >>> 33) % bound);
    }

    private String roll(int size, int ends) {
        StringBuilder text = new StringBuilder();
        for (int place = 0; place < size; place++) {
            String cue = draw(4) == 0 ? "-" : draw(6) == 0 ? "z" : ENDS[draw(ends)];
            text.append(place == 0 ? "" : ";").append(cue).append(">").append(ENDS[draw(ends)]);
        }
        return text.toString();
    }

    /** Makes an object of these rolls, and what trying needs: the words of each cue and speech, by roll and place. */
    private void tell(String... texts) {
        x = new CueRolls();
        cues = new ArrayList<>();
        speeches = new ArrayList<>();
        for (int i = 0; i < 128; i++) {
            cues.add(null);
            speeches.add(null);
        }
        sizes = new int[texts.length];
        for (int roll = 0; roll < texts.length; roll++) {
            check.due("text(0) of " + texts[roll], Check.tell(x, 0, texts[roll]), roll);
            String[] items = texts[roll].split(";");
            sizes[roll] = items.length;
            for (int place = 0; place < items.length; place++) {
                String[] two = items[place].split(">");
                cues.set(16 * roll + place, two[0].equals("-") ? new String[0] : two[0].split(" "));
                speeches.set(16 * roll + place, two[1].split(" "));
            }
        }
    }

    private boolean follows(int speech, int last) {
        String[] cue = cues.get(speech);
        if (last < 0 || cue.length == 0) {
            return last < 0 && cue.length == 0;
        }
        String[] words = speeches.get(last);
        boolean ends = last / 16 != speech / 16 && cue.length <= words.length;
        for (int i = 0; ends && i < cue.length; i++) {
            ends = cue[cue.length - 1 - i].equals(words[words.length - 1 - i]);
        }
        return ends;
    }

    /** Goes on from an order begun, with so many gaps so far, in every way; the lower rolls come first. */
    private void tryAll(List<Integer> begun, int gaps, int[] said) {
        boolean over = true;
        for (int roll = 0; roll < sizes.length; roll++) {
            if ((some >> roll & 1) == 1 && said[roll] < sizes[roll]) {
                over = false;
                int speech = 16 * roll + said[roll];
                int last = begun.isEmpty() ? -1 : begun.get(begun.size() - 1);
                begun.add(speech);
                said[roll]++;
                tryAll(begun, gaps + (follows(speech, last) ? 0 : 1), said);
                said[roll]--;
                begun.remove(begun.size() - 1);
            }
        }
        if (over) {
            count(begun, gaps);
        }
    }

    private void count(List<Integer> order, int gaps) {
        if (gaps > least) {
            return;
        }
        if (gaps < least) {
            least = gaps;
            best = 0;
            first = new ArrayList<>(order);
            pairs = new long[128][128];
        }
        best++;
        for (int i = 1; i < order.size(); i++) {
            pairs[order.get(i - 1)][order.get(i)]++;
        }
    }

    private void compare(int among, String texts) {
        some = among;
        least = Integer.MAX_VALUE;
        tryAll(new ArrayList<>(), 0, new int[sizes.length]);
        String told = " of " + some + " among " + texts;
        check.due("14: least" + told, x.least(some), least);
        check.due("15: orders" + told, x.orders(some), best);
        for (int place = 0; place < first.size(); place++) {
            check.due("16: first at " + place + told, x.first(some, place), first.get(place));
        }
        check.due("16: first behind all" + told, x.first(some, first.size()), -1);
        for (int one : first) {
            for (int other : first) {
                long in = pairs[one][other];
                long want = one == other ? -2 : in == 0 ? 0 : in == best ? 1 : -1;
                check.due("17: sure of " + one + ", " + other + told, x.sure(some, one, other), want);
            }
        }
    }

    /** All of these rolls, some of them, all again: what was counted before leaves nothing. */
    private void compareAll(String... texts) {
        tell(texts);
        String joined = String.join(" / ", texts);
        int all = (1 << texts.length) - 1;
        compare(all, joined);
        if (texts.length > 1) {
            compare(1 + draw(all - 1), joined);
            compare(all, joined);
        }
    }

    /** Orders that part and meet again: what stands behind the meeting is in all of them, or in some. */
    private void meeting() {
        compareAll("z>a", "z>b", "z>c;c>c", "c>b;z>a");
        compareAll("->a", "z>b", "z>c", "c>a;z>b", "a>z");
        compareAll("->a;z>b;z>a", "z>b;z>c;z>b", "z>c;c>a", "c>q");
        compareAll("z>a", "z>a", "z>a", "z>a", "z>b", "b>c");
        compareAll("->a;b>a", "a>b");
    }

    public static void main(String[] args) {
        Check check = new Check("OrdersTest");
        OrdersTest test = new OrdersTest(check);
        test.meeting();
        int[][] all = {{1}, {4}, {1, 1}, {3, 2}, {4, 4}, {1, 1, 1, 1, 1, 1}, {2, 2, 2, 2}, {3, 3, 3}, {1, 2, 3}, {5, 2, 1}};
        for (int i = 0; i < 40; i++) {
            for (int[] sizes : all) {
                String[] texts = new String[sizes.length];
                for (int roll = 0; roll < sizes.length; roll++) {
                    texts[roll] = test.roll(sizes[roll], 2 + i % 4);
                }
                test.compareAll(texts);
            }
        }
        check.close();
    }
}
