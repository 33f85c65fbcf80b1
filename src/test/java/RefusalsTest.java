import java.lang.reflect.InvocationTargetException;
import java.lang.reflect.Method;
import java.util.ArrayList;
import java.util.Arrays;
import java.util.List;

/**
 * Every number that a call bounds: its least and its most are taken, one less and one more are refused, by what the
 * document says, and change nothing; of two refusals the one that is told first is answered.
 */
public final class RefusalsTest {
    private static final Due due = new Due("RefusalsTest");
    private static final long NO = HowHigh.NO, NONE = HowHigh.NONE, BAD = HowHigh.BAD;
    private static final Twins SOME = new Twins(due, Scene::some);
    private static final Twins NEW = new Twins(due, Scene::nothing);
    private static final Twins FULL = new Twins(due, Scene::full);

    /** A number that a call bounds: the argument's place, its least, its most, what is answered below and above. */
    private record Bound(int place, int least, int most, long below, long above) {
        Bound(int place, int least, int most, long refused) {
            this(place, least, most, refused, refused);
        }

        long refused(int v) {
            return v < least ? below : above;
        }
    }

    private final String name;
    private final Twins twins;
    private final int[] valid;
    private final List<Bound> bounds = new ArrayList<>();
    // What may be answered, the first one told ahead of the others.
    private final long[] order;

    private RefusalsTest(String name, Twins twins, int[] valid, long[] order) {
        this.name = name;
        this.twins = twins;
        this.valid = valid;
        this.order = order;
    }

    public static void main(String[] args) {
        coast();
        rules();
        what();
        best();
        bay();
        host();
        due.end();
    }

    private static RefusalsTest row(String name, Twins twins, int[] valid, long... order) {
        return new RefusalsTest(name, twins, valid, order);
    }

    private static int[] with(int... numbers) {
        return numbers;
    }

    private RefusalsTest in(int place, int least, int most, long refused) {
        bounds.add(new Bound(place, least, most, refused));
        return this;
    }

    private RefusalsTest in(int place, int least, int most, long below, long above) {
        bounds.add(new Bound(place, least, most, below, above));
        return this;
    }

    private long call(HowHigh x, int[] numbers) {
        for (Method m : HowHigh.class.getMethods()) {
            if (m.getName().equals(name) && m.getParameterCount() == numbers.length) {
                Object[] args = new Object[numbers.length];
                for (int i = 0; i < args.length; i++) {
                    args[i] = m.getParameterTypes()[i] == long.class ? (Object) (long) numbers[i] : numbers[i];
                }
                return answer(m, x, args);
            }
        }
        throw new IllegalStateException("no such method: " + name);
    }

    private static long answer(Method m, HowHigh x, Object[] args) {
        try {
            return ((Number) m.invoke(x, args)).longValue();
        } catch (IllegalAccessException | InvocationTargetException e) {
            throw new IllegalStateException(m.getName() + Arrays.toString(args), e);
        }
    }

    private int[] changed(int place, int v) {
        int[] numbers = valid.clone();
        numbers[place] = v;
        return numbers;
    }

    private void taken(int[] numbers) {
        long got = call(twins.one(), numbers);
        boolean refused = Arrays.stream(order).anyMatch(o -> o == got);
        due.holds(name + Arrays.toString(numbers) + " is taken, not " + got, !refused);
    }

    private void refused(int[] numbers, long want) {
        twins.refused(name + Arrays.toString(numbers), x -> call(x, numbers), want);
    }

    private void holds() {
        taken(valid);
        for (Bound b : bounds) {
            taken(changed(b.place, b.least));
            taken(changed(b.place, b.most));
            for (int v : new int[] {b.least - 1, b.most + 1, Integer.MIN_VALUE, Integer.MAX_VALUE}) {
                refused(changed(b.place, v), b.refused(v));
            }
        }
        for (Bound a : bounds) {
            for (Bound b : bounds) {
                if (a.place < b.place) {
                    bothRefused(a, b);
                }
            }
        }
    }

    private void bothRefused(Bound a, Bound b) {
        for (int v : new int[] {a.least - 1, a.most + 1}) {
            for (int w : new int[] {b.least - 1, b.most + 1}) {
                int[] numbers = changed(a.place, v);
                numbers[b.place] = w;
                refused(numbers, firstTold(a.refused(v), b.refused(w)));
            }
        }
    }

    private long firstTold(long a, long b) {
        for (long told : order) {
            if (told == a || told == b) {
                return told;
            }
        }
        throw new IllegalStateException("not in the order of " + name);
    }

    private static void coast() {
        int[] most = {16, 60, 999, 1};
        for (int what = 0; what < 4; what++) {
            row("set", SOME, with(what, 1), NONE, BAD).in(0, 0, 3, NONE).in(1, what == 0 ? 1 : 0, most[what], BAD).holds();
        }
        row("count", SOME, with(3), BAD).in(0, 0, 11, BAD).holds();
        for (Twins at : new Twins[] {SOME, NEW}) {
            row("path", at, with(5, 6, 7, 809), BAD)
                .in(0, 1, 99, BAD).in(1, 0, 30, BAD).in(2, 0, 40, BAD).in(3, 0, 1540, BAD).holds();
        }
        row("weigh", SOME, with(1, 5), NONE, BAD).in(0, 0, 1, NONE).in(1, 1, 99, BAD).holds();
        row("weigh", FULL, with(3, 5), NONE, BAD).in(0, 0, 3, NONE).in(1, 1, 99, BAD).holds();
        row("storm", NEW, with(7, 8), BAD, -3).in(0, 0, 40, BAD).in(1, 1, 1000, BAD).holds();
        row("storm", SOME, with(7, 865), BAD, -3).in(0, 0, 40, BAD).holds();
        row("storm", SOME, with(7, 8), BAD, -3).isRefusedAt(1, 866, -3).isRefusedAt(1, 1000, -3)
            .isRefusedAt(1, 1001, BAD).isRefusedAt(1, 0, BAD).isRefusedAt(1, Integer.MAX_VALUE, BAD);
        row("storm", FULL, with(7, 940), BAD, -3, -4).isRefused(-4);
        row("storm", FULL, with(7, 941), BAD, -3, -4).isRefused(-3);
        row("storm", FULL, with(41, 941), BAD, -3, -4).isRefused(BAD);
        row("path", FULL, with(1, 0, 0, 0), BAD, -4).isRefused(-4);
        row("path", FULL, with(1, 0, 0, 41), BAD, -4).isRefused(BAD);
        row("level", SOME, with(1, 5), -5, -7).in(0, 0, 1, -5).in(1, 0, 15, -7).holds();
        row("flood", SOME, with(1, 5, 20), -5, -7).in(0, 0, 1, -5).in(1, 0, 15, -7).in(2, 0, 99, -7).holds();
        row("harm", SOME, with(1, 5, 20, 70), NO)
            .in(0, 0, 1, NO).in(1, 0, 15, NO).in(2, 0, 99, NO).in(3, 0, 9999, NO).holds();
        row("cost", SOME, with(4, 20, 5, 70), BAD)
            .in(0, 0, 99, BAD).in(1, 0, 99, BAD).in(2, 0, 15, BAD).in(3, 0, 9999, BAD).holds();
        row("behindThen", SOME, with(3), BAD).in(0, 0, 16, BAD).holds();
        row("seen", SOME, with(1, 3), BAD).in(0, 0, 15, BAD).holds();
        row("think", SOME, with(1, 5, 3, 1), NO).in(0, 0, 1, NO).in(1, 0, 15, NO).in(3, 0, 1, NO).holds();
    }

    private static void rules() {
        for (int kind = 0; kind < 6; kind++) {
            row("rule", SOME, with(kind, 5, 509, 0), BAD, -11)
                .in(0, 0, 5, BAD).in(1, 0, 1000, BAD).in(2, 0, 920, BAD).holds();
        }
        row("rule", FULL, with(6, 5, 509, 0), BAD, -4).isRefused(BAD);
        row("ruleTold", SOME, with(1, 3), -5, -7).in(0, 0, 3, -5).in(1, 0, 19, -7).holds();
        row("ruleTold", FULL, with(1, 3), -5, -7).in(0, 0, 7, -5).in(1, 0, 19, -7).holds();
        row("ruleTold", NEW, with(0, 0), -5).isRefused(-5);
        row("feed", SOME, with(97, 3), BAD, -4).in(1, 1, 8, BAD).holds();
        row("feed", FULL, with(97, 1), BAD, -4).isRefused(-4);
        row("feed", FULL, with(97, 0), BAD, -4).isRefused(BAD);
        row("feed", FULL, with(97, 9), BAD, -4).isRefused(BAD);
        row("text", FULL, with(), -4).isRefused(-4);
        row("force", NEW, with(0), BAD).in(0, 0, 0, BAD).holds();
        row("force", SOME, with(1), BAD).in(0, 0, 1, BAD).holds();
        row("force", FULL, with(1), BAD).in(0, 0, 5, BAD).holds();
    }

    private void isRefused(long want) {
        refused(valid, want);
    }

    private static void what() {
        for (String asked : new String[] {"total", "spent", "regret"}) {
            row(asked, SOME, with(2, 1), NO).in(0, 0, 3, NO).in(1, 0, 1, NO).holds();
            row(asked, FULL, with(2, 1), NO).in(0, 0, 7, NO).in(1, 0, 3, NO).holds();
            row(asked, NEW, with(0, 0), NO).isRefused(NO);
        }
        row("mean", SOME, with(2, 1), NO).in(0, 0, 3, NO).in(1, 0, 1, NO).holds();
        row("row", SOME, with(2, 1, 3, 2), -5, -7)
            .in(0, 0, 3, -5).in(1, 0, 1, -5).in(2, 0, 4, -7).in(3, 0, 3, -7).holds();
        row("judge", SOME, with(1, 7), BAD, -11).in(1, 0, 1000, BAD).holds();
        row("drawn", SOME, with(2, 5, 1), NO).in(0, 0, 3, NO).in(1, 0, 99999, NO).in(2, 0, 1, NO).holds();
    }

    private static void best() {
        row("best", SOME, with(1, 1), NO).in(0, -1, 1, NO).in(1, 0, 1, NO).holds();
        row("best", FULL, with(1, 1), NO).in(0, -1, 3, NO).in(1, 0, 1, NO).holds();
        row("best", NEW, with(-1, 1), NO).in(0, -1, -1, NO).in(1, 0, 1, NO).holds();
        row("planned", SOME, with(1, 1), -5, -7).in(0, -1, 1, -5).in(1, 0, 4, -7).holds();
        row("planned", NEW, with(-1, 9), -5, -7).isRefused(-5);
        for (Twins at : new Twins[] {SOME, NEW}) {
            row("know", at, with(1), NO).in(0, 0, 1, NO).holds();
            row("waits", at, with(2, 1), NO).in(0, 0, 16, NO).in(1, 0, 1, NO).holds();
            row("broadWorth", at, with(1), NO).in(0, 0, 1, NO).holds();
            row("sure", at, with(1), BAD).in(0, 0, 1, BAD).holds();
            row("thousand", at, with(50, 1), NO).in(0, 0, 1000, NO).in(1, 0, 1, NO).holds();
            row("price", at, with(50), BAD).in(0, 0, 999999, BAD).holds();
        }
        row("worst", SOME, with(2), NO).in(0, 0, 3, NO).holds();
        row("worst", NEW, with(0), NO).isRefused(NO);
    }

    private static void bay() {
        for (String made : new String[] {"street", "town"}) {
            for (Twins at : new Twins[] {SOME, NEW}) {
                row(made, at, with(50, 70), BAD, -4).in(0, 0, 60, BAD).in(1, 0, 999, BAD).holds();
            }
            row(made, FULL, with(50, 70), BAD, -4).isRefused(-4);
            row(made, FULL, with(61, 70), BAD, -4).isRefused(BAD);
            row(made, FULL, with(50, -1), BAD, -4).isRefused(BAD);
        }
        row("when", SOME, with(1, 1, 7), -5, -7).in(0, 0, 1, -5).in(1, 0, 1, -5).in(2, 0, 1000, -7).holds();
        row("away", SOME, with(1, 1, 7, 1), -5, -7)
            .in(0, 0, 1, -5).in(1, 0, 4, -7).in(2, 0, 1000, -7).in(3, 0, 1, -7).holds();
        row("push", SOME, with(5), BAD).in(0, 0, 9, BAD).holds();
        row("pays", SOME, with(1, 1, 2, 7, 1), NO)
            .in(0, 0, 1, NO).in(1, 0, 1, NO).in(2, 0, 4, NO).in(3, 1, 30, NO).in(4, 0, 3, NO).holds();
        row("pays", FULL, with(1, 1, 2, 7, 1), NO)
            .in(0, 0, 2, NO).in(1, 0, 3, NO).in(2, 0, 7, NO).in(3, 1, 30, NO).in(4, 0, 7, NO).holds();
        for (String asked : new String[] {"rests", "together"}) {
            row(asked, SOME, with(1, 2, 7), BAD).in(0, 0, 1, BAD).in(1, 0, 4, BAD).in(2, 1, 30, BAD).holds();
        }
        row("joint", SOME, with(1, 1, 2, 7), BAD)
            .in(0, 1, 3, BAD).in(1, 0, 1, BAD).in(2, 0, 4, BAD).in(3, 0, 1000, BAD).holds();
        row("join", SOME, with(2, 1, 2, 7), BAD, -11)
            .in(1, 0, 1, BAD).in(2, 0, 4, BAD).in(3, 0, 1000, BAD).holds();
        row("back", NEW, with(), -3).isRefused(-3);
    }

    private static void host() {
        for (int s = 0; s < 4; s++) {
            row("sheet", SOME, with(s, 1, 3), BAD, -14)
                .in(0, 0, 3, BAD).in(1, -1, 2, BAD).in(2, 0, 40, -14, BAD).holds();
        }
        row("cell", SOME, with(0, 5, 5), BAD, -11, -12).in(1, 0, 15, -12).holds();
        row("cell", SOME, with(1, 4, 5), BAD, -11, -12).in(1, 0, 4, -12).holds();
        row("copy", SOME, with(0, 2, 0, 4, 3), BAD, -11, -13, -12)
            .in(1, 0, 13, -12).in(3, 0, 13, -12).in(4, 0, 12, -12).holds();
        row("stormsBy", SOME, with(0, 2, 1, 1), BAD, -11, -13, -12).in(2, 0, 14, -12).in(3, 0, 6, BAD).holds();
        row("taken", SOME, with(8, 0), BAD, -12).in(1, 0, 6, BAD).holds();
        row("taken", SOME, with(1, 6), BAD, -12).isRefusedAt(0, -1, -12).isRefusedAt(0, 16, -12);
        row("taken", SOME, with(16, 7), BAD, -12).isRefused(BAD);
        sheetsOutside();
    }

    private RefusalsTest isRefusedAt(int place, int v, long want) {
        refused(changed(place, v), want);
        return this;
    }

    private static void sheetsOutside() {
        for (int s : new int[] {-1, 4, Integer.MIN_VALUE, Integer.MAX_VALUE}) {
            row("rule", SOME, with(4, 0, 0, s), BAD).isRefused(BAD);
            row("rule", FULL, with(4, 0, 0, s), BAD).isRefused(BAD);
            row("judge", SOME, with(s, 0), BAD).isRefused(BAD);
            row("join", SOME, with(s, 0, 0, 0), BAD).isRefused(BAD);
            row("sheet", SOME, with(s, -1, 0), BAD).isRefused(BAD);
            row("cell", SOME, with(s, 0, 0), BAD).isRefused(BAD);
            row("cell", SOME, with(s, -1, 0), BAD).isRefused(BAD);
            row("copy", SOME, with(s, 0, 0, 0, 0), BAD).isRefused(BAD);
            row("copy", SOME, with(0, 0, s, 0, 0), BAD).isRefused(BAD);
            row("copy", SOME, with(3, 0, s, 0, -1), BAD).isRefused(BAD);
            row("stormsBy", SOME, with(s, 2, 0, 1), BAD).isRefused(BAD);
            row("stormsBy", SOME, with(s, 2, 99, 0), BAD).isRefused(BAD);
        }
        for (int s : new int[] {1, 2}) {
            row("rule", SOME, with(4, 0, 0, s), BAD).isRefused(BAD);
            row("join", SOME, with(s - 1, 0, 0, 0), BAD).isRefused(BAD);
            row("judge", SOME, with(2 * s - 2, 0), BAD).isRefused(BAD);
        }
        row("rule", SOME, with(4, 0, 0, 3), BAD).isRefused(-11);
        row("rule", FULL, with(4, 0, 0, 3), BAD).isRefused(-11);
        row("rule", FULL, with(4, 0, 0, 0), BAD).isRefused(-4);
        row("judge", SOME, with(3, 0), BAD).isRefused(-11);
        row("join", SOME, with(3, 0, 0, 0), BAD).isRefused(-11);
        row("cell", SOME, with(3, 0, 0), BAD).isRefused(-11);
        row("cell", SOME, with(3, -1, 0), BAD).isRefused(-11);
        row("copy", SOME, with(3, 0, 0, 0, 0), BAD).isRefused(-11);
        row("copy", SOME, with(0, 0, 3, 0, -1), BAD).isRefused(-11);
        row("copy", SOME, with(0, 0, 1, 0, -1), BAD).isRefused(-13);
        row("stormsBy", SOME, with(3, 2, 99, 0), BAD).isRefused(-11);
        row("stormsBy", SOME, with(0, 1, 99, 0), BAD).isRefused(-13);
        row("stormsBy", SOME, with(0, 3, 0, 1), BAD).isRefused(BAD);
        row("stormsBy", SOME, with(0, -1, 0, 1), BAD).isRefused(BAD);
        row("stormsBy", SOME, with(3, 3, 99, 7), BAD).isRefused(BAD);
    }
}
