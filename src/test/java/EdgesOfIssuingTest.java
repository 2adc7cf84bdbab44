import java.util.ArrayList;
import java.util.List;

/** The boundary cases of promises 6, 7, 8 and 16: issue, update, cancel, version. */
public final class EdgesOfIssuingTest {
    public static void main(String[] args) {
        issueId();
        issueSeverity();
        issueSpan();
        issueBegin();
        issueEnd();
        issueAnswersCells();
        issueTakesWhatIsTyped();
        idIsUsedOnce();
        twelveWarnings();
        fortyVersions();
        fortyVersionsOfOneWarning();
        updateSeverity();
        updateSpan();
        updateEnd();
        updateBeginning();
        updateOfLiveOnes();
        updateTakesWhatIsTyped();
        cancelOfLiveOnes();
        cancelIsLikeTheVersionBefore();
        versionNumbers();
        Check.finish();
    }

    private static void issueId() {
        Story.tell("an id, 1 .. 1000",
            "near 0 0", "text 0 1", "issue 0 1 1 9 1 ! argument", "issue -1 1 1 9 1 ! argument",
            "issue 1001 1 1 9 1 ! argument", "issue MIN 1 1 9 1 ! argument", "issue MAX 1 1 9 1 ! argument",
            "total 2 = 0", "issue 1 1 1 9 1 = 0", "near 0 0", "text 0 1", "issue 1000 1 1 9 1 = 0", "total 2 = 2",
            "version 1 = 1", "version 1000 = 1");
    }

    private static void issueSeverity() {
        Story.tell("a severity, 1 .. 5",
            "cell 0 0 1", "near 0 0", "text 0 1", "issue 1 0 1 9 1 ! argument", "issue 1 6 1 9 1 ! argument",
            "issue 1 -1 1 9 1 ! argument", "issue 1 MIN 1 9 1 ! argument", "issue 1 MAX 1 9 1 ! argument",
            "issue 1 1 1 9 1 = 1", "near 0 0", "text 0 1", "issue 2 5 1 9 1 = 1", "minute = 2", "listed 0 0 2 = 1",
            "listed 0 1 2 = 5");
    }

    private static void issueSpan() {
        Story.tell("a SPAN (1 .. 1000 minutes)",
            "cell 0 0 1", "near 0 0", "text 0 1", "issue 1 1 1 9 0 ! argument", "issue 1 1 1 9 1001 ! argument",
            "issue 1 1 1 9 -1 ! argument", "issue 1 1 1 9 MIN ! argument", "issue 1 1 1 9 MAX ! argument",
            "issue 1 1 1 9 1 = 1", "near 0 0", "text 0 1", "issue 2 1 1 9 1000 = 1", "minute = 2", "minute = 1");
    }

    private static void issueBegin() {
        Story.tell("begin is not above the clock: at 0",
            "near 0 0", "text 0 1", "issue 1 1 0 9 1 ! argument", "issue 1 1 -1 9 1 ! argument",
            "issue 1 1 MIN 9 1 ! argument", "issue 1 1 1 9 1 = 0");
        Story.tell("begin is not above the clock: at 3",
            "3 x minute", "near 0 0", "text 0 1", "issue 1 1 3 9 1 ! argument", "issue 1 1 2 9 1 ! argument",
            "issue 1 1 0 9 1 ! argument", "issue 1 1 4 9 1 = 0");
        Story.tell("begin may be as late as a minute before the latest end",
            "cell 0 0 1", "near 0 0", "text 0 1", "issue 1 1 MAX MAX 1 ! argument", "issue 1 1 MAX MIN 1 ! argument",
            "issue 1 1 MAX-1 MAX 1 = 1", "minute = 0", "list 0 = 1.1", "listed 0 0 3 = MAX");
    }

    private static void issueEnd() {
        Story.tell("end not above begin",
            "near 0 0", "text 0 1", "issue 1 1 5 5 1 ! argument", "issue 1 1 5 4 1 ! argument",
            "issue 1 1 5 0 1 ! argument", "issue 1 1 5 -5 1 ! argument", "issue 1 1 5 MIN 1 ! argument",
            "issue 1 1 5 6 1 = 0");
        Story.tell("end not above begin: the latest end",
            "near 0 0", "text 0 1", "issue 1 1 1 1 1 ! argument", "issue 1 1 1 MAX 1 = 0");
    }

    private static void issueAnswersCells() {
        Story.tell("how many cells it covers: of none",
            "near 0 0", "text 0 1", "issue 1 1 1 9 1 = 0");
        Story.tell("how many cells it covers: none of 8, 1 of 8, all of 8",
            "7 x cell 0 0 1", "cell 900 0 1", "near -500 0", "text 0 1", "issue 1 1 1 9 1 = 0", "near 900 0",
            "text 0 1", "issue 2 1 1 9 1 = 1", "near 0 0", "text 0 1", "issue 3 1 1 9 1 = 7",
            "area -5 -5 905 -5 905 5 -5 5", "text 0 1", "issue 4 1 1 9 1 = 8", "minute = 16");
        Story.tell("how many cells it covers: those with a cut line too",
            "2 x cell 0 0 1", "line 0 cut", "near 0 0", "text 0 1", "issue 1 1 1 9 1 = 2");
    }

    private static void issueTakesWhatIsTyped() {
        Story.tell("a first version of what is typed (nothing is typed then)",
            "near 0 0", "bytes 0 3", "bytes 1 2", "bytes 2 1", "issue 1 1 1 9 1 = 0", "clear = 0",
            "issue 2 1 1 9 1 ! unsupported", "near 0 0", "issue 2 1 1 9 1 ! unsupported", "clear = 4", "text 0 1 = 1",
            "issue 2 1 1 9 1 ! unsupported", "near 0 0", "issue 2 1 1 9 1 = 0");
        Story.tell("what is typed stays when the issue is refused",
            "cell 0 0 1", "near 0 0", "bytes 1 2", "issue 1 1 0 9 1 ! argument", "issue 1001 1 1 9 1 ! argument",
            "issue 1 1 1 9 1 = 1", "near 0 0", "bytes 1 4", "issue 1 1 1 9 1 ! state", "clear = 8");
    }

    private static void idIsUsedOnce() {
        Story.tell("an id is used once: by a live warning",
            "near 0 0", "text 0 1", "issue 5 1 1 9 1", "near 0 0", "text 0 1", "issue 5 1 1 9 1 ! state",
            "issue 5 2 3 20 7 ! state", "version 5 = 1", "total 2 = 1", "issue 4 1 1 9 1 = 0");
        Story.tell("an id is used once: by a cancelled warning",
            "near 0 0", "text 0 1", "issue 5 1 1 9 1", "cancel 5 = 2", "near 0 0", "text 0 1",
            "issue 5 1 1 9 1 ! state", "version 5 = 2", "issue 6 1 1 9 1 = 0");
        Story.tell("an id is used once: by a warning that has ended",
            "near 0 0", "text 0 1", "issue 5 1 1 2 1", "near 0 0", "text 0 1", "2 x minute",
            "issue 5 1 3 9 1 ! state", "version 5 = 1", "issue 6 1 3 9 1 = 0");
    }

    private static List<String> twelveIssued() {
        List<String> rows = new ArrayList<>();
        rows.add("cell 0 0 1");
        for (int id = 1; id <= 12; id++) {
            rows.add("near 0 0");
            rows.add("text 0 1");
            rows.add("issue " + id + " 1 1 9 1 = 1");
            rows.add("total 2 = " + id);
        }
        return rows;
    }

    private static void tell(String sentence, List<String> rows, String... more) {
        List<String> all = new ArrayList<>(rows);
        all.addAll(List.of(more));
        Story.tell(sentence, all.toArray(new String[0]));
    }

    private static void twelveWarnings() {
        tell("At most 12 warnings are ever made", twelveIssued(),
            "near 0 0", "text 0 1", "issue 13 1 1 9 1 ! state", "total 2 = 12", "total 3 = 12", "version 13 = 0",
            "minute = 12", "update 12 1 9 1 = 1", "version 12 = 2", "cancel 11 = 2", "total 2 = 12", "total 3 = 14");
        tell("At most 12 warnings are ever made: cancelled ones count", twelveIssued(),
            "cancel 1 = 2", "near 0 0", "text 0 1", "issue 13 1 1 9 1 ! state", "issue 1 1 1 9 1 ! state");
        tell("At most 12 warnings are ever made: ended ones count", twelveIssued(),
            "9 x minute", "near 0 0", "text 0 1", "list 0 = nothing", "issue 13 1 10 19 1 ! state");
    }

    /** So many versions, all of warning 41, each in the three corners that leave room for forty. */
    private static List<String> versions(int count) {
        List<String> rows = new ArrayList<>(List.of("cell 0 0 1", "area 0 0 9 0 0 9", "text 0 1", "issue 41 1 1 9 1 = 1"));
        for (int n = 2; n <= count; n++) {
            rows.add("area 0 0 9 0 0 9");
            rows.add("text 0 1");
            rows.add("update 41 1 9 1 = 1");
        }
        rows.add("version 41 = " + count);
        rows.add("total 3 = " + count);
        return rows;
    }

    private static void fortyVersions() {
        tell("40 versions of all together: the fortieth by issue, no more by issue, update, cancel", versions(39),
            "near 0 0", "text 0 1", "issue 2 1 1 9 1 = 1", "total 3 = 40", "near 0 0", "text 0 1",
            "issue 3 1 1 9 1 ! state", "update 41 1 9 1 ! state", "update 2 1 9 1 ! state", "cancel 41 ! state",
            "cancel 2 ! state", "total 2 = 2", "total 3 = 40", "version 41 = 39", "version 2 = 1", "version 3 = 0",
            "minute = 2");
        tell("40 versions of all together: the fortieth by update", versions(39),
            "near 0 0", "text 0 1", "update 41 1 9 1 = 1", "version 41 = 40", "total 3 = 40", "near 0 0", "text 0 1",
            "update 41 1 9 1 ! state", "cancel 41 ! state", "issue 3 1 1 9 1 ! state", "clear = 5");
        tell("40 versions of all together: the fortieth by cancel", versions(39),
            "minute = 1", "cancel 41 = 40", "total 3 = 40", "near 0 0", "text 0 1", "issue 3 1 2 9 1 ! state",
            "minute = 1", "listed 0 0 1 = 40", "listed 0 0 4 = 0");
    }

    private static void fortyVersionsOfOneWarning() {
        tell("VERSIONS, numbered 1, 2, ..: 40 of one warning", versions(40),
            "covers 41 0 = yes", "minute = 1", "list 0 = 41.40", "pages 0 = 41.40/0.0:1");
    }

    private static void updateSeverity() {
        Story.tell("update: severity is not as told",
            "cell 0 0 1", "near 0 0", "text 0 1", "issue 1 3 1 9 1", "near 0 0", "text 0 1",
            "update 1 0 9 1 ! argument", "update 1 6 9 1 ! argument", "update 1 MIN 9 1 ! argument",
            "update 1 MAX 9 1 ! argument", "update 1 1 9 1 = 1", "minute = 1", "listed 0 0 2 = 1", "near 0 0",
            "text 0 1", "update 1 5 9 1 = 1", "minute = 1", "listed 0 0 2 = 5", "version 1 = 3");
    }

    private static void updateSpan() {
        Story.tell("update: span is not as told",
            "cell 0 0 1", "near 0 0", "text 0 1", "issue 1 3 1 9 1", "near 0 0", "text 0 1",
            "update 1 1 9 0 ! argument", "update 1 1 9 1001 ! argument", "update 1 1 9 -1 ! argument",
            "update 1 1 9 MIN ! argument", "update 1 1 9 MAX ! argument", "update 1 1 9 1000 = 1", "minute = 1",
            "minute = 0", "near 0 0", "text 0 1", "update 1 1 9 1 = 1", "minute = 1", "minute = 1");
    }

    private static void updateEnd() {
        Story.tell("update: end not above its beginning (the clock and 1): at 0",
            "cell 0 0 1", "near 0 0", "text 0 1", "issue 1 3 1 9 1", "near 0 0", "text 0 1",
            "update 1 1 1 1 ! argument", "update 1 1 0 1 ! argument", "update 1 1 -1 1 ! argument",
            "update 1 1 MIN 1 ! argument", "update 1 1 2 1 = 1", "minute = 1", "listed 0 0 3 = 2", "minute = 0",
            "list 0 = nothing");
        Story.tell("update: end not above its beginning (the clock and 1): at 4",
            "cell 0 0 1", "near 0 0", "text 0 1", "issue 1 3 1 9 1", "near 0 0", "text 0 1", "4 x minute",
            "update 1 1 5 1 ! argument", "update 1 1 4 1 ! argument", "update 1 1 6 1 = 1", "minute = 1",
            "list 0 = 1.2", "minute = 0", "list 0 = nothing");
        Story.tell("update: the latest end",
            "cell 0 0 1", "near 0 0", "text 0 1", "issue 1 3 1 9 1", "near 0 0", "text 0 1", "update 1 1 MAX 1 = 1",
            "minute = 1", "listed 0 0 3 = MAX", "9 x minute", "list 0 = 1.2");
    }

    private static void updateBeginning() {
        Story.tell("whose beginning is the next minute: earlier than that of the version before",
            "cell 0 0 1", "near 0 0", "text 0 1", "issue 1 3 7 9 1", "minute = 0", "near 0 0", "text 0 1",
            "update 1 3 20 3 = 1", "minute = 1", "minute = 0", "minute = 0", "minute = 1", "minute = 0");
        Story.tell("whose beginning is the next minute: spans count from there",
            "cell 0 0 1", "near 0 0", "text 0 1", "issue 1 3 1 30 2", "minute = 1", "minute = 0", "near 0 0",
            "text 0 1", "update 1 3 30 2 = 1", "minute = 1", "minute = 0", "near 0 0", "text 0 1",
            "update 1 3 30 2 = 1", "minute = 1", "near 0 0", "text 0 1", "update 1 3 30 2 = 1", "minute = 1",
            "minute = 0", "minute = 1");
    }

    private static void updateOfLiveOnes() {
        Story.tell("LIVE when it has been issued",
            "near 0 0", "text 0 1", "update 1 1 9 1 ! state", "update 0 1 9 1 ! state", "update -1 1 9 1 ! state",
            "update 1000 1 9 1 ! state", "update 1001 1 9 1 ! state", "update MIN 1 9 1 ! state",
            "update MAX 1 9 1 ! state", "issue 1 1 1 9 1 = 0", "near 0 0", "text 0 1", "update 2 1 9 1 ! state",
            "update 1 1 9 1 = 0");
        Story.tell("LIVE when the end of its newest version is greater than the clock: the last minute",
            "near 0 0", "text 0 1", "issue 1 1 1 5 1", "near 0 0", "text 0 1", "4 x minute", "update 1 1 9 1 = 0",
            "version 1 = 2");
        Story.tell("LIVE when the end of its newest version is greater than the clock: its end",
            "near 0 0", "text 0 1", "issue 1 1 1 5 1", "near 0 0", "text 0 1", "5 x minute", "update 1 1 9 1 ! state",
            "minute", "update 1 1 9 1 ! state", "version 1 = 1", "clear = 5");
        Story.tell("the end of its NEWEST version counts: longer than the one before",
            "near 0 0", "text 0 1", "issue 1 1 1 3 1", "near 0 0", "text 0 1", "update 1 1 6 1", "5 x minute",
            "near 0 0", "text 0 1", "update 1 1 9 1 = 0", "version 1 = 3");
        Story.tell("the end of its NEWEST version counts: shorter than the one before",
            "near 0 0", "text 0 1", "issue 1 1 1 9 1", "near 0 0", "text 0 1", "update 1 1 3 1", "3 x minute",
            "near 0 0", "text 0 1", "update 1 1 9 1 ! state", "cancel 1 ! state", "version 1 = 2");
        Story.tell("and that is no cancel",
            "near 0 0", "text 0 1", "issue 1 1 1 9 1", "near 0 0", "text 0 1", "cancel 1 = 2",
            "update 1 1 9 1 ! state", "minute", "update 1 1 9 1 ! state", "version 1 = 2", "clear = 5");
        Story.tell("LIVE before its beginning too",
            "near 0 0", "text 0 1", "issue 1 1 MAX-1 MAX 1", "near 0 0", "text 0 1", "update 1 1 9 1 = 0",
            "version 1 = 2");
    }

    private static void updateTakesWhatIsTyped() {
        Story.tell("a next version of what is typed (nothing is typed then)",
            "cell 0 0 1", "cell 300 0 1", "handset 0", "camp 0 1", "near 0 0", "bytes 0 3", "issue 1 1 1 9 1 = 1",
            "near 300 0", "bytes 1 2", "update 1 1 9 1 = 1", "clear = 0", "update 1 1 9 1 ! unsupported",
            "minute = 1", "pages 0 = nothing", "pages 1 = 1.2/1.0:2", "screen 0 = 1.2/1@1=ab!");
        Story.tell("how many cells an update covers: none, all of 8",
            "8 x cell 0 0 1", "near 0 0", "text 0 1", "issue 1 1 1 9 1 = 8", "near 300 0", "text 0 1",
            "update 1 1 9 1 = 0", "minute = 0", "near 0 0", "text 0 1", "update 1 1 9 1 = 8", "minute = 8");
    }

    private static void cancelOfLiveOnes() {
        Story.tell("IllegalState: there is no live warning with the id: it was not issued",
            "cancel 0 ! state", "cancel 1 ! state", "cancel -1 ! state", "cancel 1000 ! state", "cancel 1001 ! state",
            "cancel MIN ! state", "cancel MAX ! state", "near 0 0", "text 0 1", "issue 1 1 1 9 1", "cancel 2 ! state",
            "total 3 = 1", "cancel 1 = 2", "total 3 = 2");
        Story.tell("cancel: the last minute of a live warning",
            "near 0 0", "text 0 1", "issue 1 1 1 5 1", "4 x minute", "cancel 1 = 2");
        Story.tell("cancel: its end",
            "near 0 0", "text 0 1", "issue 1 1 1 5 1", "5 x minute", "cancel 1 ! state", "minute",
            "cancel 1 ! state", "version 1 = 1", "total 3 = 1");
        Story.tell("cancel: of a cancel",
            "near 0 0", "text 0 1", "issue 1 1 1 5 1", "cancel 1 = 2", "cancel 1 ! state", "minute",
            "cancel 1 ! state", "version 1 = 2", "total 3 = 2");
        Story.tell("cancel: before its beginning",
            "near 0 0", "text 0 1", "issue 1 1 MAX-1 MAX 1", "cancel 1 = 2");
        Story.tell("cancel takes nothing of what is typed",
            "near 0 0", "text 0 1", "issue 1 1 1 5 1", "near 0 0", "text 2 1", "cancel 1 = 2", "clear = 5");
    }

    private static void cancelIsLikeTheVersionBefore() {
        Story.tell("a CANCEL, which has the severity and the end of the version before: the first",
            "cell 0 0 1", "near 0 0", "text 0 1", "issue 1 4 1 5 1", "minute = 1", "cancel 1 = 2", "minute = 1",
            "listed 0 0 0 = 1", "listed 0 0 1 = 2", "listed 0 0 2 = 4", "listed 0 0 3 = 5", "listed 0 0 4 = 0",
            "minute = 1", "minute = 1", "minute = 0", "list 0 = nothing");
        Story.tell("a CANCEL, which has the severity and the end of the version before: an update",
            "cell 0 0 1", "near 0 0", "text 0 1", "issue 1 4 1 5 1", "minute = 1", "near 0 0", "text 0 1",
            "update 1 2 4 1", "minute = 1", "cancel 1 = 3", "minute = 1", "listed 0 0 1 = 3", "listed 0 0 2 = 2",
            "listed 0 0 3 = 4", "listed 0 0 4 = 0", "minute = 0", "list 0 = nothing");
        Story.tell("a CANCEL has the latest end too",
            "cell 0 0 1", "near 0 0", "text 0 1", "issue 1 4 1 MAX 1", "minute = 1", "cancel 1 = 2", "minute = 1",
            "listed 0 0 3 = MAX");
    }

    private static void versionNumbers() {
        Story.tell("The number of the newest version of a warning; 0 when there is none",
            "version 1 = 0", "near 0 0", "text 0 1", "issue 1 1 1 3 1", "version 1 = 1", "version 2 = 0",
            "version 0 = 0", "version -1 = 0", "version 1001 = 0", "version MAX = 0", "version MIN = 0", "near 0 0",
            "text 0 1", "update 1 1 3 1", "version 1 = 2", "cancel 1 = 3", "version 1 = 3", "5 x minute",
            "version 1 = 3", "version 2 = 0");
        Story.tell("the number counts for each warning alone",
            "near 0 0", "text 0 1", "issue 9 1 1 9 1", "near 0 0", "text 0 1", "issue 3 1 1 9 1", "near 0 0",
            "text 0 1", "update 9 1 9 1", "version 9 = 2", "version 3 = 1", "cancel 3 = 2", "version 9 = 2");
    }
}
