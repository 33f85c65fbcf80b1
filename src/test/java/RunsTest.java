import java.lang.reflect.InvocationTargetException;
import java.lang.reflect.Method;
import java.lang.reflect.Modifier;
import java.util.ArrayList;
import java.util.Arrays;
import java.util.HashMap;
import java.util.List;
import java.util.Map;
import java.util.Random;

/**
 * Runs of 512 calls of the whole face, by numbers drawn (the seeds are told, so that each run is the same): each answer
 * is held against the document told a second time. Most numbers are such as the call takes, some lie at an edge or
 * just beyond it, a few far out.
 */
public final class RunsTest {
    private static final Due due = new Due("RunsTest");
    private static final int MOST_CALLS = 512;
    // Far numbers, for which sums and products may wrap.
    private static final int[] FAR = {
        Integer.MAX_VALUE, Integer.MIN_VALUE, Integer.MAX_VALUE - 1, Integer.MIN_VALUE + 1, 1 << 30, -100, 65536, 100000,
    };

    /** A call by its name, how often it is drawn, and the least and most of each number it takes. */
    private record Kind(String name, int often, int... bounds) {
    }

    // Mosts that hang on what there is.
    private static final int YEAR = -1000, PATH = -1001, RULE = -1002, STREET = -1003, TOWN = -1004, TOWNS = -1005;
    private static final List<Kind> KINDS = List.of(
        new Kind("set", 12, 0, 3, 0, 999), new Kind("count", 4, 0, 11),
        new Kind("path", 6, 1, 99, 0, 30, 0, 40, 0, 1540), new Kind("weigh", 6, 0, PATH, 1, 99),
        new Kind("storm", 8, 0, 40, 1, 300), new Kind("level", 4, 0, PATH, 0, 15),
        new Kind("flood", 4, 0, PATH, 0, 15, 0, 99), new Kind("harm", 6, 0, PATH, 0, 15, 0, 99, 0, 9999),
        new Kind("cost", 6, 0, 99, 0, 99, 0, 15, 0, 9999), new Kind("behindThen", 4, 0, 16),
        new Kind("seen", 4, 0, 15, 0, 30), new Kind("think", 4, 0, PATH, 0, 15, 0, 30, 0, 1),
        new Kind("rule", 10, 0, 5, 0, 1000, 0, 920, 0, 3), new Kind("ruleTold", 6, 0, RULE, 0, 19),
        new Kind("text", 1), new Kind("force", 8, 0, 5), new Kind("total", 8, 0, RULE, 0, PATH),
        new Kind("spent", 6, 0, RULE, 0, PATH), new Kind("mean", 6, 0, RULE, 0, 1),
        new Kind("row", 12, 0, RULE, 0, PATH, 0, YEAR, 0, 3), new Kind("judge", 8, 0, 3, 0, 1000),
        new Kind("drawn", 10, 0, RULE, 0, 99999, 0, 1), new Kind("best", 6, -1, PATH, 0, 1),
        new Kind("planned", 8, -1, PATH, 0, YEAR), new Kind("know", 3, 0, 1), new Kind("waits", 3, 0, 16, 0, 1),
        new Kind("broadWorth", 3, 0, 1), new Kind("decided", 3), new Kind("regret", 4, 0, RULE, 0, PATH),
        new Kind("worst", 3, 0, RULE), new Kind("sure", 2, 0, 1), new Kind("thousand", 3, 0, 1000, 0, 1),
        new Kind("price", 3, 0, 5000), new Kind("street", 8, 0, 60, 0, 999),
        new Kind("when", 6, 0, STREET, 0, PATH, 0, 1000), new Kind("away", 6, 0, PATH, 0, YEAR, 0, 1000, 0, 1),
        new Kind("town", 4, 0, 60, 0, 999), new Kind("push", 5, 0, 9),
        new Kind("pays", 10, 0, TOWN, 0, PATH, 0, YEAR, 1, 30, 0, TOWNS),
        new Kind("rests", 6, 0, PATH, 0, YEAR, 1, 30), new Kind("together", 6, 0, PATH, 0, YEAR, 1, 30),
        new Kind("joint", 6, 1, TOWNS, 0, PATH, 0, YEAR, 0, 1000),
        new Kind("join", 10, 0, 3, 0, PATH, 0, YEAR, 0, 1000), new Kind("image", 3), new Kind("back", 3),
        new Kind("sheet", 8, 0, 3, 0, 2, 0, 40), new Kind("cell", 12, 0, 3, 0, 39, 0, 20),
        new Kind("copy", 10, 0, 3, 0, 15, 0, 3, 0, 15, 0, 15), new Kind("stormsBy", 8, 0, 3, 0, 2, 0, 20, 0, 3),
        new Kind("taken", 8, 0, 15, 0, 6));
    private static final Map<String, Method> FACE = methods(HowHigh.class);
    private static final Map<String, Method> TOLD = methods(Told.class);

    private final Random random;
    private final HowHigh x = new HowHigh();
    private final Told told = new Told();
    private final List<String> run = new ArrayList<>();
    private boolean same = true;

    private RunsTest(long seed) {
        random = new Random(seed);
    }

    public static void main(String[] args) {
        int runs = Integer.getInteger("howhigh.runs", 200);
        int first = Integer.getInteger("howhigh.first", 0);
        for (int seed = first; seed < first + runs; seed++) {
            new RunsTest(seed).go(seed);
        }
        due.end();
    }

    private static Map<String, Method> methods(Class<?> of) {
        Map<String, Method> named = new HashMap<>();
        for (Method m : of.getDeclaredMethods()) {
            if (!Modifier.isPrivate(m.getModifiers())) {
                named.put(m.getName(), m);
            }
        }
        return named;
    }

    private void go(int seed) {
        due.is("calls of the face", KINDS.size() + 1, FACE.size());
        if (seed % 8 != 0) {
            begin(seed % 4 < 2 ? 6 : 16);
        }
        int all = KINDS.stream().mapToInt(k -> k.often).sum();
        while (same && run.size() < MOST_CALLS) {
            int lot = random.nextInt(all + 30);
            int k = 0;
            while (k < KINDS.size() && lot >= KINDS.get(k).often) {
                lot -= KINDS.get(k).often;
                k++;
            }
            if (k < KINDS.size()) {
                one(KINDS.get(k));
            } else if (lot < 5) {
                law();
            } else if (lot < 20) {
                tellingSheet();
            } else {
                one(KINDS.get(random.nextInt(KINDS.size())));
            }
        }
        if (!same) {
            System.out.println("seed " + seed + ": " + run);
        }
    }

    /** So that there is something to ask about from the beginning. */
    private void begin(int mostYears) {
        call("set", 0, 1 + random.nextInt(mostYears));
        call("set", 1, random.nextInt(61));
        for (int i = random.nextInt(5); i > 0; i--) {
            call("path", 1 + random.nextInt(99), random.nextInt(31), random.nextInt(41),
                100 * random.nextInt(16) + random.nextInt(41));
        }
        for (int i = random.nextInt(5); i > 0; i--) {
            call("storm", random.nextInt(41), 1 + random.nextInt(250));
        }
        for (int i = random.nextInt(4); i > 0; i--) {
            call("town", random.nextInt(61), random.nextInt(1000));
        }
        if (random.nextBoolean()) {
            law();
        }
    }

    private void call(String name, long... numbers) {
        if (!same || run.size() >= MOST_CALLS) {
            return;
        }
        String said = name + Arrays.toString(numbers);
        run.add(said);
        long got = answer(FACE.get(name), x, numbers);
        long want = answer(TOLD.get(name), told, numbers);
        due.is(said, got, want);
        same = got == want;
    }

    private static long answer(Method m, Object of, long[] numbers) {
        Object[] args = new Object[numbers.length];
        for (int i = 0; i < args.length; i++) {
            args[i] = m.getParameterTypes()[i] == long.class ? (Object) numbers[i] : (Object) (int) numbers[i];
        }
        try {
            return ((Number) m.invoke(of, args)).longValue();
        } catch (IllegalAccessException | InvocationTargetException e) {
            throw new IllegalStateException(m.getName() + Arrays.toString(numbers), e);
        }
    }

    private void one(Kind kind) {
        long[] numbers = new long[kind.bounds.length / 2];
        for (int i = 0; i < numbers.length; i++) {
            numbers[i] = number(kind.bounds[2 * i], most(kind.bounds[2 * i + 1]));
        }
        if (random.nextInt(4) != 0) {
            fit(kind.name, numbers);
        }
        call(kind.name, numbers);
    }

    /** Makes numbers such that the call is taken more often, or has more to tell. */
    private void fit(String name, long[] n) {
        switch (name) {
            case "set" -> n[1] %= n[0] == 0 ? 17 : n[0] == 1 ? 62 : n[0] == 2 ? 1000 : 2;
            case "path" -> n[3] = highest(n[3], 40);
            case "rule" -> {
                n[1] %= n[0] == 1 ? 400 : 5;
                n[2] = highest(n[2], 20);
            }
            case "think" -> n[2] = levelOr(n[2], random.nextBoolean() ? n[0] : random.nextInt(4), n[1]);
            case "seen" -> n[1] = levelOr(n[1], random.nextInt(4), n[0]);
            case "away" -> n[2] %= 100;
            case "flood", "judge", "when", "joint", "join" -> n[n.length - 1] %= 100;
            default -> {
            }
        }
    }

    /** The number with what stands behind its hundreds no higher than so. */
    private static long highest(long n, int most) {
        return n % 100 > most ? n - n % 100 + most : n;
    }

    private long levelOr(long other, long path, long year) {
        long level = told.level((int) path, (int) year);
        return level < 0 ? other : level;
    }

    private int most(int bound) {
        return switch (bound) {
            case YEAR -> has(0) - 1;
            case PATH -> Math.max(0, has(4) - 1);
            case RULE -> Math.max(0, has(6) - 1);
            case STREET -> Math.max(0, has(7) - 1);
            case TOWN -> Math.max(0, has(8) - 1);
            case TOWNS -> Math.max(1, (1 << has(8)) - 1);
            default -> bound;
        };
    }

    private int has(int what) {
        return (int) told.count(what);
    }

    private int number(int least, int most) {
        int way = random.nextInt(60);
        if (way == 0) {
            return FAR[random.nextInt(FAR.length)];
        }
        if (way < 6) {
            return random.nextBoolean() ? least - (way - 1) / 3 : most + (way - 1) / 3;
        }
        return least + (int) (random.nextDouble() * ((long) most - least + 1));
    }

    /** A sheet of as many numbers as a rule, judge(), join() or stormsBy() asks for. */
    private void tellingSheet() {
        int s = random.nextInt(4);
        int way = random.nextInt(4);
        int[] sizes = {16, has(0), has(8), 2 + 2 * random.nextInt(3)};
        int size = sizes[way];
        int sort = random.nextInt(3);
        call("sheet", s, sort, size);
        for (int i = 0; i < size; i++) {
            int most = way == 2 ? random.nextBoolean() ? 100 : 99999 : way == 3 ? i % 2 == 0 ? 40 : 200 : 20;
            if (random.nextInt(4) != 0) {
                call("cell", s, i, number(0, most));
            }
        }
        switch (way) {
            case 0 -> call("rule", 4, random.nextInt(1001), 100 * random.nextInt(10) + random.nextInt(21), s);
            case 1 -> call("judge", s, random.nextInt(200));
            case 2 -> call("join", s, 0, random.nextInt(has(0)), random.nextInt(200));
            default -> call("stormsBy", s, sort, random.nextInt(3), random.nextInt(4));
        }
    }

    private void law() {
        String text;
        if (random.nextInt(3) == 0) {
            text = tokens();
        } else {
            text = "harm " + part(0) + ";cost " + part(1) + ";\ngrow " + part(2) + " ;";
            text = random.nextInt(3) == 0 ? spoiled(text) : text;
        }
        int i = 0;
        while (i < text.length()) {
            int n = Math.min(text.length() - i, 1 + random.nextInt(8));
            long w = random.nextLong();
            for (int k = 0; k < n; k++) {
                w = w << 8 | text.charAt(i + k);
            }
            call("feed", w, random.nextInt(100) == 0 ? number(1, 8) : n);
            i += n;
        }
        call("text");
        call("force", random.nextInt(1 + has(9)));
    }

    private String part(int which) {
        String text = "";
        for (int i = 0; i < 20 && (text.isEmpty() || text.length() > 45); i++) {
            SaidPart part = random.nextInt(3) != 0 ? SaidPart.plain(random, which) : SaidPart.any(random, 0, 3);
            text = part.text();
        }
        return text.length() > 45 ? "up" : text;
    }

    private String spoiled(String text) {
        StringBuilder all = new StringBuilder(text);
        int at = random.nextInt(all.length());
        String signs = "();+-*<= \n09az_A,\0\u00ff";
        switch (random.nextInt(4)) {
            case 0 -> all.setCharAt(at, signs.charAt(random.nextInt(signs.length())));
            case 1 -> all.insert(at, signs.charAt(random.nextInt(signs.length())));
            case 2 -> all.deleteCharAt(at);
            default -> all.setLength(at);
        }
        return all.toString();
    }

    /** A text of tokens drawn, of which most may stand where they do. */
    private String tokens() {
        String[] all = {"harm", "cost", "grow", "over", "behind", "up", "or", "and", "not", "(", "(", "(", ")", ")", ";",
            "+", "-", "-", "*", "<", "=", "1", "23", "4567", "89012", "\n", " "};
        StringBuilder text = new StringBuilder("harm ");
        for (int i = 0; i < 40 && text.length() < 150; i++) {
            String token = all[random.nextInt(all.length)];
            if (mayBegin(text + token) || random.nextInt(12) == 0) {
                text.append(token).append(random.nextInt(3) == 0 ? "" : " ");
            }
        }
        return text.toString();
    }

    /** Whether a text may begin so: it is faulty only in that it ends. */
    private static boolean mayBegin(String text) {
        try {
            SaidLaw said = new SaidLaw(text);
            said.part("harm");
            said.part("cost");
            said.last("grow");
            return true;
        } catch (SaidLaw.Fault fault) {
            return fault.place == text.length();
        }
    }
}
