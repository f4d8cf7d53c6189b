import java.lang.reflect.Method;
import java.util.ArrayList;
import java.util.Arrays;
import java.util.Comparator;
import java.util.List;
import java.util.Random;

/** Runs of random calls, by fixed seeds, each answer against that of the model. */
public final class ModelTest {
    private static final int RUNS = 700;
    private static final int[] ODD = {-1, -2, 41, 100, 101, 201, 10000, Integer.MAX_VALUE, Integer.MIN_VALUE, -1000};
    private static final String[] KINDS = {"plain", "bleed", "share", "pump"};

    private final Random random;
    private final CellsInRow x = new CellsInRow();
    private final Model model = new Model();
    private final List<String> log = new ArrayList<>();
    private int calls;

    private ModelTest(int seed) {
        random = new Random(seed);
    }

    public static void main(String[] args) throws Exception {
        Method[] methods = CellsInRow.class.getMethods();
        methods = Arrays.stream(methods).filter(m -> m.getDeclaringClass() == CellsInRow.class)
            .sorted(Comparator.comparing(Method::getName)).toArray(Method[]::new);
        for (int seed = 1; seed <= RUNS; seed++) {
            new ModelTest(seed).run(methods, seed);
        }
        Due.finish();
    }

    private void run(Method[] methods, int seed) throws Exception {
        tell(methods);
        if (seed % 7 == 0) {
            runFar(methods, seed);
        }
        while (calls < 505) {
            int turn = random.nextInt(60);
            if (turn == 0 && calls < 300) {
                tell(methods);
            } else {
                Method m = methods[random.nextInt(methods.length)];
                boolean feeds = m.getName().equals("feed") || m.getName().equals("text") || m.getName().equals("end");
                if (!feeds || turn < 6) {
                    ask(m, numbersFor(m), seed);
                }
            }
        }
    }

    /** Brings what is counted near its bounds, which hours by chance hardly ever do. */
    private void runFar(Method[] methods, int seed) throws Exception {
        ask(named("cut", methods), new int[] {1}, seed);
        ask(named("set", methods), new int[] {0, random.nextBoolean() ? 0 : 18}, seed);
        for (int c = 0; c < 5; c++) {
            ask(named("alter", methods), new int[] {c, 0, 3}, seed);
        }
        int times = random.nextBoolean() ? 8 + random.nextInt(8) : random.nextInt(100);
        for (int i = 0; i < times; i++) {
            ask(named("hours", methods), new int[] {100}, seed);
        }
    }

    private static Method named(String name, Method[] methods) {
        return Arrays.stream(methods).filter(m -> m.getName().equals(name)).findFirst().orElseThrow();
    }

    private void ask(Method m, int[] a, int seed) throws Exception {
        Object[] boxed = Arrays.stream(a).boxed().toArray();
        calls++;
        long got = ((Number) m.invoke(x, boxed)).longValue();
        long want = model.call(m.getName(), a);
        String call = m.getName() + Arrays.toString(a);
        log.add(call);
        Due.is("seed " + seed + ", call " + calls + " " + call + (got == want ? "" : " behind " + log), got, want);
    }

    private void tell(Method[] methods) throws Exception {
        for (char c : textOf().toCharArray()) {
            ask(named("feed", methods), new int[] {c}, 0);
        }
        ask(named("text", methods), new int[0], 0);
        ask(named("fault", methods), new int[0], 0);
    }

    private String textOf() {
        StringBuilder b = new StringBuilder();
        int cells = random.nextInt(8) == 0 ? random.nextInt(7) : 1 + random.nextInt(4);
        int planAt = random.nextInt(cells + 1);
        for (int c = 0; c <= cells; c++) {
            if (c == planAt) {
                b.append("plan");
                int signs = random.nextInt(9) == 0 ? random.nextInt(18) : 1 + random.nextInt(6);
                for (int i = 0; i < signs; i++) {
                    b.append(' ').append(random.nextInt(random.nextInt(30) == 0 ? 20 : 19));
                }
                b.append(';');
            }
            if (c < cells) {
                int room = 1 + random.nextInt(random.nextBoolean() ? 20 : 99);
                b.append(KINDS[random.nextInt(4)]).append(' ').append(room).append(' ')
                    .append(random.nextInt(room + 1)).append(' ').append(random.nextInt(3) == 0 ? random.nextInt(10) : random.nextInt(3))
                    .append(';');
            }
        }
        if (random.nextInt(4) == 0) {
            spoil(b);
        }
        return b.length() > 160 ? b.substring(0, 160) : b.toString();
    }

    private void spoil(StringBuilder b) {
        String signs = " ;az0919P\n#pump plan";
        int at = random.nextInt(b.length() + 1);
        switch (random.nextInt(3)) {
            case 0 -> b.insert(at, signs.charAt(random.nextInt(signs.length())));
            case 1 -> b.setLength(at);
            default -> {
                if (at < b.length()) {
                    b.deleteCharAt(at);
                }
            }
        }
    }

    private int[] numbersFor(Method m) {
        int[] a = new int[m.getParameterCount()];
        int[] most = switch (m.getName()) {
            case "feed" -> new int[] {128};
            case "rule" -> new int[] {8};
            case "unit" -> new int[] {4, 4};
            case "sign" -> new int[] {8};
            case "alter" -> new int[] {4, 4, random.nextBoolean() ? 10 : 100};
            case "set" -> new int[] {8, 19};
            case "add", "send" -> new int[] {19};
            case "cut" -> new int[] {16};
            case "hours" -> new int[] {random.nextBoolean() ? 8 : 101};
            case "runs" -> new int[] {random.nextBoolean() ? 20 : 201, 4};
            case "ahead", "need" -> new int[] {4, random.nextBoolean() ? 20 : 201};
            case "kind", "begin" -> new int[] {4, random.nextBoolean() ? 20 : 201, 2};
            case "swap", "bridge" -> new int[] {random.nextBoolean() ? 20 : 201, 2};
            case "luck", "mean" -> new int[] {11, 9, 2};
            case "see" -> new int[] {random.nextBoolean() ? 4 : 41, 4, random.nextBoolean() ? 10 : 100};
            case "forget" -> new int[] {4};
            case "kinds", "leaks" -> new int[] {4};
            case "ask" -> new int[] {4, 2};
            case "drift" -> new int[] {Integer.MAX_VALUE, 201, 2};
            case "keep", "back" -> new int[] {2};
            case "sheet" -> new int[] {4, 3, 41};
            case "lay" -> new int[] {4, random.nextBoolean() ? 8 : 41, random.nextInt(9) == 0 ? 1 << 20 : random.nextBoolean() ? 4 : 19};
            case "read" -> new int[] {4, 3, 6, random.nextBoolean() ? 4 : 21};
            case "count" -> new int[] {6};
            default -> new int[a.length];
        };
        for (int i = 0; i < a.length; i++) {
            a[i] = random.nextInt(40) == 0 ? ODD[random.nextInt(ODD.length)]
                : random.nextInt(20) == 0 ? most.length > i ? most[i] : 160
                : random.nextInt(Math.max(1, most[i]));
        }
        seeWhatIs(m, a);
        return a;
    }

    /** Charges by chance are hardly ever as seen, so that most are the right ones. */
    private void seeWhatIs(Method m, int[] a) {
        if (m.getName().equals("see") && random.nextInt(4) != 0) {
            long v = model.call("ahead", new int[] {a[1], a[0]});
            a[2] = v < 0 ? a[2] : (int) v;
        }
    }
}
