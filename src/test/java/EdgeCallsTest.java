import java.util.ArrayList;
import java.util.List;

/**
 * All promises: into one long run, at each of its places, each call is put in whose arguments are at an edge or
 * beyond it. The program has to answer it, and all of the run behind it, as Model does; and where the call throws,
 * as if it had not been made ("a call that throws changes nothing").
 */
public final class EdgeCallsTest {
    private static final String[] RUN = {
        "cell 0 0 5", "cell 300 0 5", "handset 3", "camp 0 0", "likes 0 2", "near 0 0", "bytes 0 11", "text 2 9",
        "issue 2 3 1 8 2", "minute", "area 0 0 300 0 150 9", "text 0 0", "issue 1000 5 2 6 1", "line 1 cut", "miss 0 1",
        "minute", "handset 0", "camp 1 1", "near 300 0", "text 1 255", "update 2 2 9 1", "minute", "line 1 whole",
        "likes 1 1", "minute", "camp 0 1", "cancel 1000", "corner 7 7", "minute", "clear", "near 0 0", "text 1 1",
        "issue 1 1 7 8 1000", "minute", "minute", "minute"};
    /** All is full but the versions: 8 cells, corners, texts, 12 warnings, 3 handsets, languages that they like. */
    private static final String[] FULL = {
        "cell 0 0 5", "6 x cell 900 900 1", "cell 300 0 5", "handset 0", "handset 3", "handset 5", "camp 0 7", "camp 1 0",
        "camp 2 7", "likes 0 2", "likes 0 1", "likes 0 0", "3 x likes 2 1", "miss 2 3", "line 5 cut",
        "area 295 0 305 0 300 9", "text 1 7", "issue 1000 5 1 9 1", "area 295 0 305 0 300 9", "text 1 7",
        "issue 1 3 1 9 1", "area 295 0 305 0 300 9", "text 1 7", "issue 2 2 1 3 1", "cancel 2"};
    private static final String[] FULL_MORE = {
        "minute", "area 0 0 300 0 300 5 0 5 -1 4 -2 3 -2 2 -1 1", "bytes 0 30", "bytes 1 30", "bytes 2 29", "text 2 9"};
    private static final String[] FULL_BEHIND = {
        "minute", "update 1 4 9 1000", "line 5 whole", "minute", "sent 0 8 4", "sent 7 9 0", "minute"};

    private static final String[] LOOK = {
        "total 0", "total 1", "total 2", "total 3", "total 4", "total 10", "total 11", "total 12", "list 0", "list 1",
        "list 7", "pages 0", "pages 1", "pages 7", "screen 0", "screen 1", "screen 2", "miss 0 0", "miss 1 0", "miss 2 0",
        "likes 0 0", "likes 1 0", "likes 2 0", "camp 0 0", "camp 1 0", "camp 2 0", "line 0 whole", "line 1 whole",
        "line 5 whole", "line 7 whole", "clear"};

    private static final int[] COORDINATES = {-1001, -1000, 1000, 1001};
    private static final int[] RADII = {0, 1, 2000, 2001};
    private static final int[] IDS = {0, 1, 2, 1000, 1001};
    private static final int[] SEVERITIES = {0, 1, 5, 6};
    private static final int[] SPANS = {0, 1, 1000, 1001};
    private static final int[] LANGUAGES = {-1, 0, 2, 3};
    private static final int[] BYTES = {-1, 0, 255, 256};
    private static final int[] CELLS = {-1, 0, 1, 2, 7, 8};
    private static final int[] PLACES = {-2, -1, 0, 1, 2, 7, 8};
    private static final int[] HANDSETS = {-1, 0, 1, 2, 3};
    private static final int[] NUMBERS = {-1, 0, 1, 2, Integer.MAX_VALUE};
    private static final int[] WHATS = {Integer.MIN_VALUE, -1, 0, 4, 5, 6};
    private static final int[] MISSES = {-1, 0, 1000, 1001};
    private static final int[] TOTALS = {-1, 0, 4, 5, 9, 10, 11, 12, 13, Integer.MAX_VALUE, Integer.MIN_VALUE};

    private final List<Row> look = rows(LOOK);
    private final List<Row> run;
    private int taken = 0;
    private int refused = 0;

    private EdgeCallsTest(List<Row> run) {
        this.run = run;
    }

    public static void main(String[] args) {
        EdgeCallsTest test = new EdgeCallsTest(rows(RUN));
        for (int place = 0; place <= test.run.size(); place++) {
            test.putInAt(place);
        }
        test.checkCounts(3000, 30000);
        List<Row> full = fullBefore();
        int place = full.size();
        full.addAll(rows(FULL_BEHIND));
        EdgeCallsTest fullTest = new EdgeCallsTest(full);
        fullTest.putInAt(place);
        fullTest.checkCounts(50, 1000);
        Check.finish();
    }

    private static List<Row> fullBefore() {
        List<Row> all = rows(FULL);
        for (int id = 4; id <= 12; id++) {
            all.addAll(rows(new String[] {"area -905 0 -900 0 -900 9", "text 0 1", "issue " + id + " 1 1 3 1"}));
        }
        all.addAll(rows(FULL_MORE));
        return all;
    }

    private void checkCounts(int leastTaken, int leastRefused) {
        Check.isTrue("so many calls are taken: " + taken, taken >= leastTaken);
        Check.isTrue("so many calls are refused: " + refused, refused >= leastRefused);
    }

    private static List<Row> rows(String[] told) {
        List<Row> all = new ArrayList<>();
        for (String one : told) {
            all.addAll(Row.read(one));
        }
        return all;
    }

    private void putInAt(int place) {
        for (Row call : calls(model(place).clock())) {
            Model asked = model(place);
            String due = View.answer(asked, call.name(), call.a());
            Program program = new Program();
            play(program, run.subList(0, place));
            String got = View.answer(program, call.name(), call.a());
            String what = "put in at " + place + ": " + call.told();
            Check.same(what, due, got);
            boolean throwsIt = due.startsWith("throws.");
            taken += throwsIt ? 0 : 1;
            refused += throwsIt ? 1 : 0;
            Caller rest = throwsIt ? model(place) : asked;
            Check.same(what + ", the run behind it", behind(rest, place), behind(program, place));
        }
    }

    private Model model(int place) {
        Model made = new Model();
        play(made, run.subList(0, place));
        return made;
    }

    private String behind(Caller w, int place) {
        return play(w, run.subList(place, run.size())) + play(w, look);
    }

    private static String play(Caller w, List<Row> rows) {
        StringBuilder answers = new StringBuilder();
        for (Row row : rows) {
            answers.append(View.answer(w, row.name(), row.a())).append("; ");
        }
        return answers.toString();
    }

    private static List<Row> calls(int clock) {
        int[] begins = {clock, clock + 1};
        int[] ends = {clock + 1, clock + 2};
        List<Row> all = new ArrayList<>();
        all.addAll(cross("cell", COORDINATES, COORDINATES, RADII));
        all.addAll(cross("corner", COORDINATES, COORDINATES));
        all.addAll(cross("text", LANGUAGES, BYTES));
        all.addAll(cross("clear"));
        all.addAll(cross("issue", IDS, SEVERITIES, begins, ends, SPANS));
        all.addAll(cross("update", IDS, SEVERITIES, ends, SPANS));
        all.addAll(cross("cancel", IDS));
        all.addAll(cross("minute"));
        all.addAll(cross("line", CELLS, new int[] {0, 1}));
        all.addAll(cross("handset", new int[] {-1, 0, 5, 6}));
        all.addAll(cross("likes", HANDSETS, LANGUAGES));
        all.addAll(cross("camp", HANDSETS, PLACES));
        all.addAll(cross("miss", HANDSETS, MISSES));
        all.addAll(cross("covers", IDS, CELLS));
        all.addAll(cross("version", IDS));
        all.addAll(cross("listed", CELLS, NUMBERS, WHATS));
        all.addAll(cross("sent", CELLS, NUMBERS, WHATS));
        all.addAll(cross("shown", HANDSETS, NUMBERS, WHATS));
        all.addAll(cross("shownByte", HANDSETS, NUMBERS, NUMBERS));
        all.addAll(cross("total", TOTALS));
        return all;
    }

    /** The calls of a name with each value of the first row, each of the second, and so on. */
    private static List<Row> cross(String name, int[]... values) {
        List<String> told = List.of(name);
        for (int[] row : values) {
            List<String> longer = new ArrayList<>();
            for (String one : told) {
                for (int value : row) {
                    longer.add(one + " " + value);
                }
            }
            told = longer;
        }
        return rows(told.toArray(new String[0]));
    }
}
