import java.util.ArrayList;
import java.util.List;

/** "Methods throw what they list, the first that is so, in the order in which it is told": all pairs of reasons. */
public final class OrderOfThrowsTest {
    private static final String AREA = "area 0 0 9 0 0 9";
    private static final String TEXT = "text 0 1";

    public static void main(String[] args) {
        cells();
        corners();
        texts();
        issues();
        updates();
        handsets();
        likes();
        misses();
        covers();
        listed();
        sent();
        shown();
        Check.finish();
    }

    private static void tell(String sentence, List<String> rows) {
        Story.tell(sentence, rows.toArray(new String[0]));
    }

    private static void cells() {
        Story.tell("cell: IllegalArgument before IllegalState",
            "8 x cell 0 0 1", "cell 1001 0 1 ! argument", "cell -1001 0 1 ! argument", "cell 0 1001 1 ! argument",
            "cell 0 -1001 1 ! argument", "cell 0 0 0 ! argument", "cell 0 0 2001 ! argument", "cell 0 0 1 ! state",
            "cell 1000 -1000 2000 ! state");
    }

    private static void corners() {
        Story.tell("corner: IllegalArgument before IllegalState",
            "8 x corner 0 0", "corner 1001 0 ! argument", "corner -1001 0 ! argument", "corner 0 1001 ! argument",
            "corner 0 -1001 ! argument", "corner 0 0 ! state", "corner 1000 -1000 ! state");
    }

    private static void texts() {
        Story.tell("text: IllegalArgument before IllegalState",
            "bytes 0 30", "bytes 1 30", "bytes 2 30", "text 3 0 ! argument", "text -1 0 ! argument",
            "text 0 256 ! argument", "text 2 -1 ! argument", "text 0 0 ! state", "text 2 255 ! state");
    }

    /** Each state of the centre in which an issue of the id is IllegalState, and one in which it is not. */
    private static void issues() {
        issue("a new id", "1", "= 0", List.of());
        issue("the id was used", "7", "! state", List.of(AREA, TEXT, "issue 7 1 1 9 1"));
        issue("the id was used, and is cancelled", "7", "! state", List.of(AREA, TEXT, "issue 7 1 1 9 1", "cancel 7"));
        issue("12 warnings", "13", "! state", warnings(12));
        issue("12 warnings, and the id was used", "12", "! state", warnings(12));
        issue("40 versions", "2", "! state", versions(40));
        issue("40 versions, and the id was used", "1", "! state", versions(40));
        issue("11 warnings", "12", "= 0", warnings(11));
        issue("39 versions", "2", "= 0", versions(39));
    }

    private static List<String> warnings(int count) {
        List<String> rows = new ArrayList<>();
        for (int id = 1; id <= count; id++) {
            rows.addAll(List.of(AREA, TEXT, "issue " + id + " 1 1 9 1"));
        }
        return rows;
    }

    private static List<String> versions(int count) {
        List<String> rows = new ArrayList<>(List.of(AREA, TEXT, "issue 1 1 1 9 1"));
        for (int n = 2; n <= count; n++) {
            rows.addAll(List.of(AREA, TEXT, "update 1 1 9 1"));
        }
        return rows;
    }

    private static void issue(String state, String id, String due, List<String> before) {
        String[] wrong = {"0 1 1 9 1", "1001 1 1 9 1", id + " 0 1 9 1", id + " 6 1 9 1", id + " 1 0 9 1", id + " 1 1 1 1",
            id + " 1 1 9 0", id + " 1 1 9 1001"};
        tellTyped("issue, " + state, "issue ", wrong, id + " 1 1 9 1", due, before);
    }

    /** What is typed is as it has to be, or wanting in one of the ways that are UnsupportedOperation. */
    private static void tellTyped(String what, String name, String[] wrong, String right, String due,
            List<String> before) {
        List<String> rows = new ArrayList<>(before);
        addArguments(rows, name, wrong);
        rows.add(name + right + " ! unsupported");
        rows.add(TEXT);
        addArguments(rows, name, wrong);
        rows.add(name + right + " ! unsupported");
        rows.add("area 0 0 9 9 9 0 0 9");
        addArguments(rows, name, wrong);
        rows.add(name + right + " ! unsupported");
        rows.addAll(List.of("clear = 5", AREA));
        addArguments(rows, name, wrong);
        rows.add(name + right + " ! unsupported");
        rows.add(TEXT);
        addArguments(rows, name, wrong);
        rows.add(name + right + " " + due);
        tell(what + ": IllegalArgument before UnsupportedOperation before IllegalState", rows);
    }

    private static void addArguments(List<String> rows, String name, String[] wrong) {
        for (String arguments : wrong) {
            rows.add(name + arguments + " ! argument");
        }
    }

    /** Each state of the centre in which an update of the id is IllegalState, and one in which it is not. */
    private static void updates() {
        List<String> one = List.of(AREA, TEXT, "issue 1 1 1 9 1");
        update("live", 0, "1", "= 0", one);
        update("no warning", 0, "1", "! state", List.of());
        update("no warning with the id", 0, "2", "! state", one);
        update("an id that none has", 0, "-1", "! state", one);
        update("cancelled", 0, "1", "! state", List.of(AREA, TEXT, "issue 1 1 1 9 1", "cancel 1"));
        update("ended", 9, "1", "! state", List.of(AREA, TEXT, "issue 1 1 1 9 1", "9 x minute"));
        update("in its last minute", 8, "1", "= 0", List.of(AREA, TEXT, "issue 1 1 1 9 1", "8 x minute"));
        update("40 versions", 0, "1", "! state", versions(40));
        update("40 versions, and no warning with the id", 0, "2", "! state", versions(40));
        update("39 versions", 0, "1", "= 0", versions(39));
    }

    private static void update(String state, int clock, String id, String due, List<String> before) {
        String[] wrong = {id + " 0 99 1", id + " 6 99 1", id + " 1 " + (clock + 1) + " 1", id + " 1 99 0",
            id + " 1 99 1001"};
        tellTyped("update, " + state, "update ", wrong, id + " 1 " + (clock + 2) + " 1", due, before);
    }

    private static void handsets() {
        Story.tell("handset: IllegalArgument before IllegalState",
            "3 x handset 0", "handset -1 ! argument", "handset 6 ! argument", "handset 0 ! state", "handset 5 ! state");
    }

    private static void likes() {
        Story.tell("likes: IndexOutOfBounds before IllegalArgument before IllegalState",
            "handset 0", "likes 1 0 ! bounds", "likes 1 3 ! bounds", "likes -1 -1 ! bounds", "likes 0 3 ! argument",
            "3 x likes 0 0", "likes 1 0 ! bounds", "likes 1 3 ! bounds", "likes -1 3 ! bounds", "likes 0 3 ! argument",
            "likes 0 -1 ! argument", "likes 0 0 ! state");
    }

    private static void misses() {
        Story.tell("miss: IndexOutOfBounds before IllegalArgument",
            "miss 0 -1 ! bounds", "handset 0", "miss 1 -1 ! bounds", "miss 1 1001 ! bounds", "miss -1 1001 ! bounds",
            "miss 0 -1 ! argument", "miss 0 1001 ! argument");
    }

    private static void covers() {
        Story.tell("covers: IndexOutOfBounds before IllegalState",
            "covers 1 0 ! bounds", "cell 0 0 1", "covers 1 1 ! bounds", "covers 1 -1 ! bounds", "covers 1 0 ! state",
            AREA, TEXT, "issue 1 1 1 9 1", "covers 1 1 ! bounds", "covers 2 1 ! bounds", "covers 2 0 ! state", "cancel 1",
            "covers 1 1 ! bounds", "covers 1 -1 ! bounds", "covers 1 0 ! state");
    }

    private static void listed() {
        Story.tell("listed: IndexOutOfBounds before IllegalArgument",
            "listed 0 0 5 ! bounds", "cell 0 0 1", "listed 0 0 5 ! bounds", "listed 0 0 -1 ! bounds", AREA, TEXT,
            "issue 1 1 1 9 1", "listed 0 0 5 ! bounds", "minute = 1", "listed 1 0 5 ! bounds", "listed -1 0 5 ! bounds",
            "listed 0 1 5 ! bounds", "listed 0 -1 -1 ! bounds", "listed 0 0 5 ! argument", "listed 0 0 -1 ! argument");
    }

    private static void sent() {
        Story.tell("sent: IndexOutOfBounds before IllegalArgument",
            "sent 0 0 5 ! bounds", "cell 0 0 1", "sent 0 0 5 ! bounds", "sent 0 0 -1 ! bounds", AREA, TEXT,
            "issue 1 1 1 9 1", "sent 0 0 5 ! bounds", "minute = 1", "sent 1 0 5 ! bounds", "sent -1 0 5 ! bounds",
            "sent 0 1 5 ! bounds", "sent 0 -1 -1 ! bounds", "sent 0 0 5 ! argument", "sent 0 0 -1 ! argument");
    }

    private static void shown() {
        Story.tell("shown: IndexOutOfBounds before IllegalArgument",
            "shown 0 0 6 ! bounds", "cell 0 0 1", "handset 0", "camp 0 0", "shown 0 0 6 ! bounds",
            "shown 0 0 -1 ! bounds", AREA, TEXT, "issue 1 1 1 9 1", "shown 0 0 6 ! bounds", "minute = 1",
            "shown 1 0 6 ! bounds", "shown -1 0 6 ! bounds", "shown 0 1 6 ! bounds", "shown 0 -1 -1 ! bounds",
            "shown 0 0 6 ! argument", "shown 0 0 -1 ! argument");
    }
}
