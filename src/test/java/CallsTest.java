import com.sun.management.ThreadMXBean;
import java.lang.management.ManagementFactory;
import java.lang.reflect.InvocationTargetException;
import java.lang.reflect.Method;
import java.util.Arrays;
import java.util.Comparator;
import java.util.Random;

/** Runs of up to 512 calls with numbers of all kinds: none throws, refusals change nothing, little room is taken. */
public final class CallsTest {
    private static final Due due = new Due("CallsTest");
    private static final int[] EDGES = {
        -1, -2, 0, 1, 2, 3, 4, 5, 6, 7, 8, 15, 16, 17, 19, 20, 21, 40, 41, 60, 61, 99, 100, 999, 1000, 1001, 9999, 10000,
        99999, 100000, 999999, 1000000, Integer.MAX_VALUE, Integer.MIN_VALUE, Integer.MAX_VALUE - 1,
    };
    private static final String SIGNS =
        "harm cost grow over behind wall level year up or and not 0123456789 ( ) ; + - * < = ; ( ";
    private static final Method[] METHODS = methods();

    private static final int MOST_CALLS = 512;

    private final Random random;
    // A twin gets all calls but those that x refused, another one gets all of them.
    private final HowHigh x;
    private final HowHigh spared;
    private final HowHigh again;

    private CallsTest(long seed, Scene.Made made) {
        random = new Random(seed);
        x = Scene.of(made);
        spared = Scene.of(made);
        again = Scene.of(made);
    }

    public static void main(String[] args) throws IllegalAccessException {
        for (int seed = 0; seed < 600; seed++) {
            new CallsTest(seed, Scene::nothing).run(MOST_CALLS);
            new CallsTest(seed, Scene::some).runAndLook(100);
            new CallsTest(seed, Scene::full).runAndLook(60);
            new CallsTest(seed, Scene::nothing).runAndLook(200);
        }
        room();
        due.end();
    }

    private static Method[] methods() {
        Method[] all = HowHigh.class.getDeclaredMethods();
        Method[] open = Arrays.stream(all).filter(m -> java.lang.reflect.Modifier.isPublic(m.getModifiers()))
            .toArray(Method[]::new);
        Arrays.sort(open, Comparator.comparing(Method::getName));
        return open;
    }

    private void run(int calls) throws IllegalAccessException {
        for (int i = 0; i < calls; i++) {
            Method m = METHODS[random.nextInt(METHODS.length)];
            Object[] args = new Object[m.getParameterCount()];
            for (int a = 0; a < args.length; a++) {
                args[a] = m.getParameterTypes()[a] == long.class ? (Object) word() : (Object) number();
            }
            String call = m.getName() + Arrays.toString(args);
            try {
                long got = ((Number) m.invoke(x, args)).longValue();
                due.is(call + " once more", ((Number) m.invoke(again, args)).longValue(), got);
                if (!isRefusal(m.getName(), got)) {
                    due.is(call + " without the refused ones", ((Number) m.invoke(spared, args)).longValue(), got);
                }
            } catch (InvocationTargetException e) {
                due.holds(call + " threw " + e.getCause(), false);
            }
        }
    }

    private void runAndLook(int calls) throws IllegalAccessException {
        run(calls);
        due.holds("refusals change nothing", Look.at(x).equals(Look.at(spared)));
    }

    private int number() {
        int way = random.nextInt(10);
        return way < 6 ? random.nextInt(5) : way < 8 ? random.nextInt(120) : EDGES[random.nextInt(EDGES.length)];
    }

    /** Eight signs as they may stand in a text. */
    private long word() {
        if (random.nextInt(10) == 0) {
            return random.nextLong();
        }
        long w = 0;
        int from = random.nextInt(SIGNS.length() - 8);
        for (int i = 0; i < 8; i++) {
            w = w << 8 | SIGNS.charAt(from + i);
        }
        return w;
    }

    /** What a method answers when it refuses; storms by a sheet may have come all the same, and a text is read. */
    private static boolean isRefusal(String name, long got) {
        if (name.equals("stormsBy") || name.equals("text")) {
            return got == HowHigh.BAD || got == HowHigh.FULL || got == -11 || got == -13;
        }
        return got == HowHigh.NO || got < 0 && got > -15;
    }

    /** Dear calls, as many as there may be, take no room to speak of. */
    private static void room() {
        ThreadMXBean bean = (ThreadMXBean) ManagementFactory.getThreadMXBean();
        long before = bean.getThreadAllocatedBytes(Thread.currentThread().getId());
        HowHigh x = new HowHigh();
        long made = bean.getThreadAllocatedBytes(Thread.currentThread().getId()) - before;
        due.holds("a new object takes less than 100000 bytes: " + made, made < 100000);
        x.set(0, 16);
        for (int p = 0; p < 4; p++) {
            x.path(1 + p, p, 40, 40);
        }
        for (int s = 0; s < 6; s++) {
            x.storm(40 - s, 100);
        }
        for (int r = 0; r < 8; r++) {
            x.rule(1, r, 0, 0);
            x.street(r, r);
        }
        x.town(1, 1);
        x.town(10, 10);
        x.town(20, 10);
        long start = bean.getThreadAllocatedBytes(Thread.currentThread().getId());
        long sum = 0;
        for (int i = 0; i < 46; i++) {
            x.weigh(0, 1 + i);
            sum += x.sure(0) + x.price(0) + x.waits(i % 16, 0) + x.broadWorth(0);
            sum += x.rests(0, 0, 1) + x.sheet(0, 2, 40) + x.drawn(0, i, 1) + x.mean(0, 0) + x.text();
        }
        long taken = bean.getThreadAllocatedBytes(Thread.currentThread().getId()) - start;
        due.holds("dear calls take " + taken + " bytes for " + sum, taken < 100000);
    }
}
