import java.lang.reflect.InvocationTargetException;
import java.lang.reflect.Method;
import java.util.ArrayList;
import java.util.Comparator;
import java.util.List;
import java.util.NoSuchElementException;

/** Any arguments in any state: no call throws, but speech what the document says. */
public final class WildTest {
    private static final int[] EDGES = {
        Integer.MIN_VALUE, Integer.MIN_VALUE + 1, -1025, -129, -17, -16, -3, -2, -1, 0, 1, 2, 3, 4, 7, 8, 9, 10, 11, 12,
        15, 16, 17, 20, 31, 32, 63, 96, 112, 127, 128, 199, 200, 201, 255, 256, 1023, 1024, 0x40000000,
        Integer.MAX_VALUE - 1, Integer.MAX_VALUE};
    private static final String[] TEXTS = {
        "->a;->a;->a", "a>b;a b>a;->c a b", "abcdefgh ijklmnop>z z z z z z z z z z z abcdefgh", "a>a",
        "->a" + ";a>a".repeat(11), "a/ab/abc", "abcdefghij" + "/jihgfedcba".repeat(10), "a" + "/b/a".repeat(9) + "/c",
        "y:n*9999*9999*9999/[n-n]", "y:!!!!!!n=[1]?2", "y:!!!!!(n=[1-9999]/w)?2;y:v+f-l*w", "y:[[[[[[1]]]]]]"};
    private final Check check;
    private final List<Method> face = new ArrayList<>();
    private long seed = 7;

    private WildTest(Check check) {
        this.check = check;
        for (Method m : CueRolls.class.getMethods()) {
            if (m.getDeclaringClass() == CueRolls.class) {
                face.add(m);
            }
        }
        face.sort(Comparator.comparing(Method::getName));
    }

    private int draw(int bound) {
        seed = seed * 6364136223846793005L + 1442695040888963407L;
        return (int) ((seed >>> 33) % bound);
    }

    private void call(CueRolls x, Method m) throws IllegalAccessException {
        Object[] args = new Object[m.getParameterCount()];
        StringBuilder told = new StringBuilder(m.getName());
        for (int i = 0; i < args.length; i++) {
            int from = draw(4);
            args[i] = from == 0 ? EDGES[draw(EDGES.length)] : from == 1 ? draw(256) : draw(9) - 1;
            told.append(" ").append(args[i]);
        }
        try {
            m.invoke(x, args);
        } catch (InvocationTargetException e) {
            boolean due = m.getName().equals("speech") && e.getCause() instanceof NoSuchElementException;
            check.due(told + " throws " + e.getCause(), due, true);
        }
    }

    private void run() throws IllegalAccessException {
        CueRolls x = new CueRolls();
        for (int i = 0; i < 512; i++) {
            if (draw(8) == 0) {
                String text = TEXTS[draw(TEXTS.length)];
                int sort = text.startsWith("y") ? 2 : text.contains(">") ? 0 : 1;
                int number = Check.tell(x, sort, draw(6) == 0 ? text.substring(draw(text.length())) : text);
                check.due("text(" + sort + ") answers", number >= -1 && number < 8, true);
            } else {
                call(x, face.get(draw(face.size())));
            }
        }
    }

    public static void main(String[] args) throws IllegalAccessException {
        Check check = new Check("WildTest");
        WildTest test = new WildTest(check);
        for (int i = 0; i < 400; i++) {
            test.run();
        }
        check.close();
    }
}
