import com.sun.management.ThreadMXBean;
import java.lang.management.ManagementFactory;
import java.lang.reflect.InvocationTargetException;
import java.lang.reflect.Method;
import java.lang.reflect.Modifier;
import java.util.NoSuchElementException;
import java.util.Set;

/** How little an object and its calls make, and that nothing but what the document names is thrown. */
public final class RoomTest {
    private static final int[] WILD = {Integer.MIN_VALUE, Integer.MIN_VALUE + 1, -65536, -13, -3, -2, -1, 0, 1, 2, 3, 5, 6, 8, 9,
        11, 12, 13, 30, 31, 46, 60, 61, 80, 99, 100, 65536, Integer.MAX_VALUE - 1, Integer.MAX_VALUE};
    private static final Set<String> THROWING = Set.of("halt", "coach", "passenger", "row");
    private static final String NET = "9:b1c1;c1d2;d1e3;e1f4;f1g5;g1h6;h1i7;i1a8;a1b9";
    private static final String PASSENGERS = "0e5;1f6;2g7;3h8;4i9;5b1;0c2;1d3;2e4;3f5;4g6;5h7";

    public static void main(String[] args) throws ReflectiveOperationException {
        CoachesVote[] states = {new CoachesVote(), Check.told("1:a1a2", "", ""), Check.told(NET, "++++++", PASSENGERS),
            Check.told(NET, "abcdef", "0e5;5a1"), Check.told(NET, "++c+", "0b1;0b1;0b1;0b1;0b1;0b1;0b1;0b1;0b1;3c4")};
        for (CoachesVote x : states) {
            wild(x);
        }
        room();
        Check.finish("RoomTest");
    }

    private static void wild(CoachesVote x) throws ReflectiveOperationException {
        for (Method m : CoachesVote.class.getDeclaredMethods()) {
            if (Modifier.isPublic(m.getModifiers())) {
                int most = 1;
                for (int i = 0; i < m.getParameterCount(); i++) {
                    most *= WILD.length;
                }
                int step = most > 20000 ? 37 : 1;
                for (int n = 0; n < most; n += step) {
                    call(x, m, n);
                }
            }
        }
    }

    private static void call(CoachesVote x, Method m, int n) throws ReflectiveOperationException {
        Object[] values = new Object[m.getParameterCount()];
        int rest = n;
        for (int i = 0; i < values.length; i++) {
            values[i] = WILD[rest % WILD.length];
            rest /= WILD.length;
        }
        try {
            m.invoke(x, values);
        } catch (InvocationTargetException e) {
            boolean due = e.getCause().getClass() == NoSuchElementException.class && THROWING.contains(m.getName());
            Check.yes(m.getName() + " threw " + e.getCause(), due);
        }
    }

    private static long dearCalls() {
        CoachesVote x = new CoachesVote();
        Check.say(x, NET).net();
        Check.say(x, "++++++").coaches();
        Check.say(x, PASSENGERS).passengers();
        long sum = 0;
        for (int i = 0; i < 16; i++) {
            Check.say(x, "(r+d*2-k)/(p+1)+n*3-(c<2)*9").rule();
            sum += x.run() + x.couple() + x.reseat(12) + x.close(12) + x.fetch(0) + x.power(i % 12) + x.lobby(i % 6, 2);
            sum += x.seat(i % 12) + x.nights(i, 60) + x.seen(12, i % 9, i & 1) + x.rows() + x.ask() + x.been(2) + x.heads(30);
            sum += Check.say(x, "9-r").law() + x.odds(0, 1, 3) + x.bargain(20) + x.way(0, i % 9) + x.course() + x.ahead(30);
            sum += x.arrives(i % 12) + x.tips(i % 6) + Check.say(x, "s1r").night() + x.undo() + (x.keep(i % 3) ? 1 : 0);
        }
        return sum;
    }

    private static void room() {
        ThreadMXBean bean = (ThreadMXBean) ManagementFactory.getThreadMXBean();
        dearCalls();
        long before = bean.getCurrentThreadAllocatedBytes();
        dearCalls();
        long made = bean.getCurrentThreadAllocatedBytes() - before;
        // An object takes some 20,000 bytes at once; the test's own texts some more.
        Check.yes("bytes made by an object and 512 calls: " + made, made < 60000);
    }
}
