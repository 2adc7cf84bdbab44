import java.util.Arrays;
import java.util.Random;
import java.util.TreeMap;

/** All promises: long runs of calls, drawn with fixed seeds, answered by the program and by Model alike. */
public final class ModelTest {
    private static final int RUNS = 3000;
    private static final int AREA_RUNS = 3000;

    private static final String[] NAMES = {"cell", "corner", "text", "clear", "issue", "update", "cancel", "minute",
        "line", "handset", "likes", "camp", "miss", "covers", "version", "listed", "sent", "shown", "shownByte",
        "total"};
    private static final int[] WEIGHTS = {3, 6, 4, 1, 2, 2, 2, 14, 3, 2, 2, 5, 3, 6, 3, 18, 18, 18, 6, 5};

    private static final int[][] AREAS = {
        {0, 0, 10, 0, 10, 10, 0, 10}, {-20, -20, 20, -20, 0, 20}, {-60, -60, 60, -60, 60, 60, -60, 60},
        {0, 0, 30, 0, 30, 30, 15, 5, 0, 30},
        {0, 0, 10, 10, 10, 0, 0, 10}, {-5, 0, 0, 0, 5, 0, 0, 5}, {0, 0, 9, 0, 5, 0, 5, 9},
        {-1000, -1000, 1000, 999, 1000, 1000}, {20, 20, 40, 20, 40, 40, 20, 40},
        {-30, -30, -10, -30, -10, 30, 10, 30, 10, -30, 30, -30, 30, 40, -30, 40}};

    private static final int[] LENGTHS = {1, 1, 1, 1, 2, 2, 3, 9, 10, 11, 11, 11, 12, 20, 21, 30};

    private final Random random;
    private final Program program = new Program();
    private final Model model = new Model();
    private int calls = 0;

    private ModelTest(long seed) {
        random = new Random(seed);
    }

    public static void main(String[] args) {
        TreeMap<String, Integer> answers = new TreeMap<>();
        for (int run = 0; run < RUNS; run++) {
            new ModelTest(run).run(run, answers);
        }
        for (int run = RUNS; run < RUNS + AREA_RUNS; run++) {
            new ModelTest(run).runAreas(run, answers);
        }
        // A run that hardly ever gets anywhere would compare nothing.
        for (String name : NAMES) {
            Check.isTrue(name + " was answered a thousand times", answers.getOrDefault(name, 0) > 1000);
        }
        Check.finish();
    }

    private void run(int run, TreeMap<String, Integer> answers) {
        if (random.nextInt(10) > 0) {
            prepare(run, answers);
        }
        while (calls < Program.MOST_CALLS) {
            int before = calls;
            if (random.nextInt(14) == 0) {
                typeMuch(run, answers);
            } else {
                String name = draw();
                compare(run, name, arguments(name), answers);
            }
            if (calls == before) {
                throw new IllegalStateException("no call made");
            }
        }
    }

    /** Areas of corners on a narrow grid, where sides often touch, cross or lie on each other. */
    private void runAreas(int run, TreeMap<String, Integer> answers) {
        int grid = between(2, 6);
        for (int c = 0; c < 8; c++) {
            compare(run, "cell", new int[] {near(grid + 3), near(grid + 3), between(1, 4)}, answers);
        }
        int id = 1;
        while (calls < Program.MOST_CALLS) {
            compare(run, "clear", new int[0], answers);
            compare(run, "text", new int[] {0, 0}, answers);
            int corners = between(3, random.nextInt(4) == 0 ? 8 : 5);
            for (int i = 0; i < corners; i++) {
                compare(run, "corner", new int[] {near(grid), near(grid)}, answers);
            }
            compare(run, "issue", new int[] {id, 1, 1, 2, 1}, answers);
            if (model.call("version", new int[] {id}) == 1) {
                for (int c = 0; c < 8; c++) {
                    compare(run, "covers", new int[] {id, c}, answers);
                }
                id++;
            }
        }
    }

    /** Cells and camping handsets, so that most runs have pages to hear from early on. */
    private void prepare(int run, TreeMap<String, Integer> answers) {
        int cells = between(2, 5);
        for (int c = 0; c < cells; c++) {
            compare(run, "cell", arguments("cell"), answers);
        }
        int handsets = between(1, 3);
        for (int h = 0; h < handsets; h++) {
            compare(run, "handset", new int[] {between(0, 5)}, answers);
            compare(run, "camp", new int[] {h, between(0, 2)}, answers);
            if (random.nextBoolean()) {
                compare(run, "likes", new int[] {h, between(0, 2)}, answers);
            }
        }
        typeMuch(run, answers);
    }

    private String draw() {
        int sum = Arrays.stream(WEIGHTS).sum();
        int left = random.nextInt(sum);
        int n = 0;
        while (left >= WEIGHTS[n]) {
            left -= WEIGHTS[n];
            n++;
        }
        return NAMES[n];
    }

    /** A whole area and some texts, then an issue or an update: single calls would seldom come so far. */
    private void typeMuch(int run, TreeMap<String, Integer> answers) {
        if (random.nextInt(3) > 0) {
            compare(run, "clear", new int[0], answers);
        }
        int[] area = AREAS[random.nextInt(AREAS.length)];
        int shift = random.nextInt(3) * 10;
        for (int i = 0; i < area.length; i += 2) {
            compare(run, "corner", new int[] {Math.min(1000, area[i] + shift), area[i + 1]}, answers);
        }
        for (int language = 0; language < 3; language++) {
            int bytes = random.nextInt(2) > 0 ? 0 : LENGTHS[random.nextInt(LENGTHS.length)];
            for (int i = 0; i < bytes; i++) {
                compare(run, "text", new int[] {language, random.nextInt(256)}, answers);
            }
        }
        String name = random.nextInt(5) < 3 ? "issue" : "update";
        compare(run, name, arguments(name), answers);
    }

    private int[] arguments(String name) {
        switch (name) {
            case "cell": return new int[] {near(40), near(40), between(0, 25)};
            case "corner": return new int[] {near(12), near(12)};
            case "text": return new int[] {between(0, 3), between(-1, 256)};
            case "issue": return issueArguments();
            case "update": return new int[] {between(1, 6), between(1, 5), model.clock() + between(1, 40), between(1, 4)};
            case "cancel": return new int[] {between(1, 6)};
            case "line": return new int[] {between(-1, 5), random.nextInt(2)};
            case "handset": return new int[] {between(-1, 6)};
            case "likes": return new int[] {between(-1, 3), between(-1, 3)};
            case "camp": return new int[] {between(-1, 3), between(-2, 5)};
            case "miss": return new int[] {between(-1, 3), between(-1, 3)};
            case "covers": return new int[] {between(1, 6), between(-1, 8)};
            case "version": return new int[] {between(0, 9)};
            case "listed": return new int[] {between(0, 4), small(4), between(0, 5)};
            case "sent": return new int[] {between(0, 4), small(7), between(0, 5)};
            case "shown": return new int[] {between(0, 2), small(7), between(0, 6)};
            case "shownByte": return new int[] {between(0, 2), small(5), between(-1, 12)};
            case "total": return new int[] {between(-1, 14)};
            default: return new int[0];
        }
    }

    private int[] issueArguments() {
        int begin = model.clock() + between(0, 4);
        return new int[] {between(0, 16) == 0 ? 1000 : between(0, 7), between(1, 5), begin, begin + between(0, 40),
            between(1, 4)};
    }

    private int between(int low, int high) {
        return low + random.nextInt(high - low + 1);
    }

    private int small(int most) {
        return random.nextInt(random.nextInt(most + 1) + 1);
    }

    private int near(int most) {
        return between(-most, most);
    }

    private void compare(int run, String name, int[] a, TreeMap<String, Integer> answers) {
        if (calls == Program.MOST_CALLS) {
            return;
        }
        calls++;
        String due = View.answer(model, name, a);
        String got = View.answer(program, name, a);
        if (!due.equals(got)) {
            System.out.println("run " + run + ", call " + calls + ": " + name + Arrays.toString(a) + " answered " + got
                + ", due is " + due);
            Check.isTrue("run " + run, false);
            calls = Program.MOST_CALLS;
        }
        if (!due.startsWith("throws")) {
            answers.merge(name, 1, Integer::sum);
        }
    }
}
