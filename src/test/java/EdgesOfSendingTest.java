import java.util.ArrayList;
import java.util.List;

/** The boundary cases of promises 9, 10, 17 and 18: minutes, lines, lists and pages. */
public final class EdgesOfSendingTest {
    public static void main(String[] args) {
        theClock();
        beginAndSpan();
        theEnd();
        longSpans();
        pagesOfLengths();
        pagesOfLanguages();
        severitiesAndIds();
        mostOfAList();
        mostPages();
        mostPagesOfACell();
        newestVersionsAlone();
        cellsThatAreCovered();
        cancelsWhereListed();
        cancelsWhereNotListed();
        cancelsUntilTheirEnd();
        linesAtFirst();
        cutLines();
        mendedLines();
        cancelsAndCutLines();
        lineBounds();
        listedBounds();
        sentBounds();
        sentInTheLatestMinute();
        Check.finish();
    }

    private static void tell(String sentence, List<String> rows, String... more) {
        List<String> all = new ArrayList<>(rows);
        all.addAll(List.of(more));
        Story.tell(sentence, all.toArray(new String[0]));
    }

    private static void theClock() {
        Story.tell("THE CLOCK shows minutes, 0 at first: the clock is one more",
            "total 0 = 0", "minute = 0", "total 0 = 1", "minute = 0", "total 0 = 2");
        Story.tell("A minute goes by with nothing to send: cells alone, handsets alone, both",
            "cell 0 0 1", "minute = 0", "handset 0", "minute = 0", "camp 0 0", "minute = 0", "screen 0 = nothing",
            "total 0 = 3");
        Story.tell("as many minutes as an object has calls",
            "510 x minute = 0", "total 0 = 510", "minute = 0");
    }

    private static void beginAndSpan() {
        Story.tell("and the clock is its beginning",
            "cell 0 0 1", "near 0 0", "text 0 1", "issue 1 1 3 9 5", "minute = 0", "minute = 0", "list 0 = 1.1",
            "minute = 1", "minute = 0");
        Story.tell("or later by a multiple of its span: 3",
            "cell 0 0 1", "near 0 0", "text 0 1", "issue 1 1 2 12 3", "minute = 0", "minute = 1", "minute = 0",
            "minute = 0", "minute = 1", "minute = 0", "minute = 0", "minute = 1", "minute = 0", "minute = 0",
            "minute = 1", "minute = 0", "minute = 0", "minute = 0");
        Story.tell("or later by a multiple of its span: the least, 1",
            "cell 0 0 1", "near 0 0", "text 0 1", "issue 1 1 2 6 1", "minute = 0", "minute = 1", "minute = 1",
            "minute = 1", "minute = 1", "minute = 0", "minute = 0");
        Story.tell("the first minute of all",
            "cell 0 0 1", "near 0 0", "text 0 1", "issue 1 1 1 2 1", "minute = 1", "minute = 0");
    }

    private static void theEnd() {
        Story.tell("whose end is greater than the clock: listed until the minute before its end",
            "cell 0 0 1", "near 0 0", "text 0 1", "issue 1 1 1 4 1", "minute = 1", "minute = 1", "minute = 1",
            "list 0 = 1.1", "minute = 0", "list 0 = nothing", "pages 0 = nothing");
        Story.tell("its end is a multiple of its span later: it is not sent then",
            "cell 0 0 1", "near 0 0", "text 0 1", "issue 1 1 1 4 3", "minute = 1", "minute = 0", "minute = 0",
            "minute = 0", "list 0 = nothing");
        Story.tell("its end is one behind a multiple of its span: it is sent then",
            "cell 0 0 1", "near 0 0", "text 0 1", "issue 1 1 1 5 3", "minute = 1", "minute = 0", "minute = 0",
            "minute = 1", "minute = 0", "list 0 = nothing");
        Story.tell("the latest beginning and end: listed, never sent",
            "cell 0 0 1", "near 0 0", "text 0 1", "issue 1 1 MAX-1 MAX 1", "100 x minute = 0", "list 0 = 1.1",
            "listed 0 0 3 = MAX");
    }

    private static void longSpans() {
        Story.tell("later by a multiple of its span: 500, at 499, 500 and 501",
            "cell 0 0 1", "area 0 0 9 0 0 9", "text 0 1", "issue 1 1 1 MAX 500", "minute = 1", "499 x minute = 0",
            "minute = 1", "minute = 0");
        Story.tell("later by a multiple of its span: the greatest, 1000",
            "cell 0 0 1", "area 0 0 9 0 0 9", "text 0 1", "issue 1 1 1 MAX 1000", "minute = 1", "500 x minute = 0");
    }

    private static void pagesOfLengths() {
        String[] due = {"1", "2", "9", "10", "10 1", "10 2", "10 9", "10 10", "10 10 1", "10 10 2", "10 10 9",
            "10 10 10"};
        int[] lengths = {1, 2, 9, 10, 11, 12, 19, 20, 21, 22, 29, 30};
        for (int n = 0; n < lengths.length; n++) {
            String[] bytes = due[n].split(" ");
            List<String> rows = new ArrayList<>(List.of("cell 0 0 1", "area 0 0 9 0 0 9", "bytes 1 " + lengths[n],
                "issue 1 1 1 9 1", "minute = " + bytes.length));
            for (int k = 0; k < bytes.length; k++) {
                rows.add("sent 0 " + k + " 2 = 1");
                rows.add("sent 0 " + k + " 3 = " + k);
                rows.add("sent 0 " + k + " 4 = " + bytes[k]);
            }
            tell("PAGES have 10 bytes each, the last one 1 to 10; numbered from 0: " + lengths[n], rows,
                "sent 0 " + bytes.length + " 0 ! bounds");
        }
    }

    private static void pagesOfLanguages() {
        Story.tell("for each language that it offers, by number, all its pages, by number",
            "cell 0 0 1", "area 0 0 9 0 0 9", "bytes 2 11", "bytes 0 21", "bytes 1 1", "issue 1 1 1 9 1", "minute = 6",
            "pages 0 = 1.1/0.0:10 1.1/0.1:10 1.1/0.2:1 1.1/1.0:1 1.1/2.0:10 1.1/2.1:1");
        Story.tell("a language that is not offered has no pages: the first",
            "cell 0 0 1", "area 0 0 9 0 0 9", "bytes 1 10", "bytes 2 10", "issue 1 1 1 9 1", "minute = 2",
            "pages 0 = 1.1/1.0:10 1.1/2.0:10");
        Story.tell("a language that is not offered has no pages: that between",
            "cell 0 0 1", "area 0 0 9 0 0 9", "bytes 0 10", "bytes 2 11", "issue 1 1 1 9 1", "minute = 3",
            "pages 0 = 1.1/0.0:10 1.1/2.0:10 1.1/2.1:1");
        Story.tell("a language that is not offered has no pages: the last",
            "cell 0 0 1", "area 0 0 9 0 0 9", "bytes 0 9", "bytes 1 1", "issue 1 1 1 9 1", "minute = 2",
            "pages 0 = 1.1/0.0:9 1.1/1.0:1");
        Story.tell("all languages full: 9 pages",
            "cell 0 0 1", "area 0 0 9 0 0 9", "bytes 0 30", "bytes 1 30", "bytes 2 30", "issue 1 1 1 9 1", "minute = 9",
            "sent 0 8 2 = 2", "sent 0 8 3 = 2", "sent 0 8 4 = 10", "sent 0 9 4 ! bounds");
    }

    private static void severitiesAndIds() {
        List<String> rows = new ArrayList<>(List.of("cell 0 0 1"));
        int[] ids = {500, 1000, 1, 999, 2, 7};
        int[] severities = {1, 5, 5, 2, 4, 3};
        for (int n = 0; n < ids.length; n++) {
            rows.addAll(List.of("area 0 0 9 0 0 9", "text 0 1", "issue " + ids[n] + " " + severities[n] + " 1 9 1"));
        }
        tell("a LIST of versions, by the ids of their warnings", rows,
            "minute = 6", "list 0 = 1.1 2.1 7.1 500.1 999.1 1000.1");
        tell("by falling severity, and of the same severity by rising id", rows,
            "minute = 6", "pages 0 = 1.1/0.0:1 1000.1/0.0:1 2.1/0.0:1 7.1/0.0:1 999.1/0.0:1 500.1/0.0:1");
        tell("by falling severity, and of the same severity by rising id: cancels too", rows,
            "minute = 6", "cancel 1000 = 2", "cancel 7 = 2", "cancel 500 = 2", "minute = 6",
            "list 0 = 1.1 2.1 -7.2 -500.2 999.1 -1000.2",
            "pages 0 = 1.1/0.0:1 1000.2/3.0:0 2.1/0.0:1 7.2/3.0:0 999.1/0.0:1 500.2/3.0:0");
        tell("of each at most one", rows,
            "minute = 6", "area 0 0 9 0 0 9", "text 0 1", "update 1 1 9 1", "minute = 6",
            "list 0 = 1.2 2.1 7.1 500.1 999.1 1000.1");
    }

    private static List<String> twelve(String rest) {
        List<String> rows = new ArrayList<>(List.of("cell 0 0 1"));
        for (int id = 12; id >= 1; id--) {
            rows.addAll(List.of("area 0 0 9 0 0 9", "text 0 1", "issue " + id + rest));
        }
        return rows;
    }

    private static void mostOfAList() {
        tell("a list of 12", twelve(" 3 1 9 1"),
            "minute = 12", "list 0 = 1.1 2.1 3.1 4.1 5.1 6.1 7.1 8.1 9.1 10.1 11.1 12.1", "listed 0 11 0 = 12",
            "listed 0 12 0 ! bounds", "sent 0 11 0 = 12", "sent 0 12 0 ! bounds");
        tell("a list of 12 that all end at once", twelve(" 3 1 3 1"),
            "minute = 12", "minute = 12", "minute = 0", "list 0 = nothing", "listed 0 0 0 ! bounds");
        tell("a list of 12 that all end at once, the line cut", twelve(" 3 1 3 1"),
            "minute = 12", "line 0 cut", "minute = 12", "minute = 0", "list 0 = nothing", "listed 0 0 0 ! bounds");
        tell("a list of 12 without the first and the last", twelve(" 3 1 9 1"),
            "minute = 12", "area 500 0 509 0 500 9", "text 0 1", "update 1 1 9 1 = 0", "area 500 0 509 0 500 9",
            "text 0 1", "update 12 1 9 1 = 0", "minute = 10", "list 0 = 2.1 3.1 4.1 5.1 6.1 7.1 8.1 9.1 10.1 11.1");
    }

    /** Five such warnings are as many as 512 calls leave room for. */
    private static void mostPages() {
        List<String> rows = new ArrayList<>(List.of("8 x cell 0 0 1"));
        for (int id = 1; id <= 5; id++) {
            rows.addAll(List.of("area 0 0 9 0 0 9", "bytes 0 30", "bytes 1 30", "bytes 2 30",
                "issue " + id + " " + id + " 1 9 1 = 8"));
        }
        tell("how many pages all cells sent in it: the most", rows,
            "minute = 360", "sent 7 0 0 = 5", "sent 7 44 0 = 1", "sent 7 44 2 = 2", "sent 7 44 3 = 2");
        List<String> many = new ArrayList<>(List.of("7 x cell 900 0 1", "cell 0 0 1"));
        for (int id = 1; id <= 12; id++) {
            many.addAll(List.of("area 0 0 9 0 0 9", "bytes 0 11", "bytes 1 11", "bytes 2 11",
                "issue " + id + " 1 1 9 1 = 1"));
        }
        tell("how many pages all cells sent in it: of 12 warnings", many,
            "minute = 72", "sent 7 71 0 = 12", "sent 7 71 2 = 2", "sent 7 71 3 = 1", "sent 7 71 4 = 1");
    }

    /** No run of 512 calls makes a cell send more: second and third pages cost 10 bytes each. */
    private static void mostPagesOfACell() {
        List<String> rows = new ArrayList<>(List.of("cell 0 0 1"));
        for (int id = 1; id <= 12; id++) {
            int last = id > 6 ? 21 : 11;
            rows.addAll(List.of("area 0 0 9 0 0 9", "bytes 0 11", "bytes 1 11", "bytes 2 " + last,
                "issue " + id + " 1 1 9 1 = 1"));
        }
        rows.addAll(List.of("minute = 78", "sent 0 77 0 = 12", "sent 0 77 2 = 2", "sent 0 77 3 = 2", "sent 0 77 4 = 1",
            "sent 0 78 0 ! bounds"));
        Story.tellWithoutQuestions("how many pages all cells sent in it: the most of one cell",
            rows.toArray(new String[0]));
    }

    private static void newestVersionsAlone() {
        Story.tell("from the newest versions: an older one comes not back when the newest has ended",
            "cell 0 0 1", "near 0 0", "text 0 1", "issue 1 1 1 20 1", "minute = 1", "near 0 0", "text 0 1",
            "update 1 1 4 1", "minute = 1", "minute = 1", "list 0 = 1.2", "minute = 0", "list 0 = nothing",
            "minute = 0", "list 0 = nothing");
        Story.tell("from the newest versions: nor when the newest covers it not",
            "cell 0 0 1", "near 0 0", "text 0 1", "issue 1 1 1 20 1", "minute = 1", "near 400 0", "text 0 1",
            "update 1 1 4 1 = 0", "minute = 0", "list 0 = nothing", "4 x minute = 0", "list 0 = nothing");
        Story.tell("from the newest versions: two updates in one minute",
            "cell 0 0 1", "near 0 0", "text 0 1", "issue 1 1 1 20 1", "minute = 1", "near 0 0", "text 0 1",
            "update 1 1 20 1", "near 0 0", "text 1 1", "update 1 1 20 1", "minute = 1", "list 0 = 1.3",
            "pages 0 = 1.3/1.0:1");
    }

    private static void cellsThatAreCovered() {
        Story.tell("those that are spoken and cover it",
            "cell 0 0 1", "cell 11 0 1", "cell 12 0 1", "near 0 0", "text 0 1", "issue 1 1 1 9 1 = 2", "minute = 2",
            "list 0 = 1.1", "list 1 = 1.1", "list 2 = nothing");
        Story.tell("a cell that is made later has a list from its first minute on",
            "near 0 0", "text 0 1", "issue 1 1 1 9 1 = 0", "minute = 0", "cell 0 0 1", "list 0 = nothing",
            "pages 0 = nothing", "minute = 1", "list 0 = 1.1");
        Story.tell("what was cancelled before a cell was made is not in its list",
            "cell 0 0 1", "near 0 0", "text 0 1", "issue 1 1 1 9 1", "minute = 1", "cancel 1", "cell 0 0 1",
            "minute = 1", "list 0 = -1.2", "list 1 = nothing");
    }

    private static void cancelsWhereListed() {
        Story.tell("cancels of warnings of which it listed a version before: before its beginning",
            "cell 0 0 1", "near 0 0", "text 0 1", "issue 1 1 5 9 1", "minute = 0", "list 0 = 1.1", "cancel 1",
            "minute = 1", "list 0 = -1.2", "pages 0 = 1.2/3.0:0");
        Story.tell("cancels of warnings of which it listed a version before: the one before the newest",
            "cell 0 0 1", "near 0 0", "text 0 1", "issue 1 1 1 9 1", "minute = 1", "near 500 0", "text 0 1",
            "update 1 1 9 1", "cancel 1 = 3", "minute = 1", "list 0 = -1.3");
        Story.tell("cancels of warnings of which it listed a version before: one that ends in this minute",
            "cell 0 0 1", "near 0 0", "text 0 1", "issue 1 1 1 2 1", "minute = 1", "near 0 0", "text 0 1",
            "update 1 1 9 1", "cancel 1 = 3", "minute = 1", "list 0 = -1.3", "listed 0 0 3 = 9");
        Story.tell("cancels of warnings of which it listed a version before: new ones come before them in the list",
            "cell 0 0 1", "near 0 0", "text 0 1", "issue 8 1 1 9 1", "near 0 0", "text 0 1", "issue 9 1 1 9 1",
            "minute = 2", "minute = 2", "near 0 0", "text 0 1", "issue 1 1 3 9 1", "near 0 0", "text 0 1",
            "issue 2 1 3 9 1", "cancel 8", "cancel 9", "minute = 4", "list 0 = 1.1 2.1 -8.2 -9.2", "minute = 4",
            "list 0 = 1.1 2.1 -8.2 -9.2");
        Story.tell("cancels of warnings of which it listed a version before: others go before them from the list",
            "cell 0 0 1", "near 0 0", "text 0 1", "issue 1 1 1 3 1", "near 0 0", "text 0 1", "issue 2 1 1 9 1",
            "near 0 0", "text 0 1", "issue 3 1 1 9 1", "minute = 3", "minute = 3", "cancel 2", "cancel 3",
            "minute = 2", "list 0 = -2.2 -3.2");
        Story.tell("a cancel that was listed stays listed",
            "cell 0 0 1", "near 0 0", "text 0 1", "issue 1 1 1 9 1", "minute = 1", "cancel 1", "minute = 1",
            "minute = 1", "minute = 1", "list 0 = -1.2");
    }

    private static void cancelsWhereNotListed() {
        Story.tell("no cancel where nothing was listed: cancelled before a minute went by",
            "cell 0 0 1", "near 0 0", "text 0 1", "issue 1 1 1 9 1", "cancel 1 = 2", "minute = 0", "list 0 = nothing",
            "minute = 0", "list 0 = nothing");
        Story.tell("no cancel where nothing was listed: another cell",
            "cell 0 0 1", "cell 500 0 1", "near 0 0", "text 0 1", "issue 1 1 1 9 1", "minute = 1", "cancel 1 = 2",
            "minute = 1", "list 0 = -1.2", "list 1 = nothing");
        Story.tell("no cancel where it is listed no more: the update went elsewhere",
            "cell 0 0 1", "cell 500 0 1", "near 0 0", "text 0 1", "issue 1 1 1 9 1", "minute = 1", "near 500 0",
            "text 0 1", "update 1 1 9 1", "minute = 1", "cancel 1 = 3", "minute = 1", "list 0 = nothing",
            "list 1 = -1.3");
        Story.tell("no cancel of another warning",
            "cell 0 0 1", "near 0 0", "text 0 1", "issue 1 1 1 9 1", "minute = 1", "near 0 0", "text 0 1",
            "issue 2 1 2 9 1", "cancel 2 = 2", "minute = 1", "list 0 = 1.1");
    }

    private static void cancelsUntilTheirEnd() {
        Story.tell("if it is a cancel, one page (of language 3, number 0): each minute until its end",
            "cell 0 0 1", "near 0 0", "bytes 0 30", "bytes 1 30", "issue 1 1 1 6 1000", "minute = 6", "cancel 1",
            "minute = 1", "sent 0 0 0 = 1", "sent 0 0 1 = 2", "sent 0 0 2 = 3", "sent 0 0 3 = 0", "sent 0 0 4 = 0",
            "sent 0 1 0 ! bounds", "minute = 1", "minute = 1", "minute = 1", "list 0 = -1.2", "minute = 0",
            "list 0 = nothing");
        Story.tell("a cancel in the last minute is never sent",
            "cell 0 0 1", "near 0 0", "text 0 1", "issue 1 1 1 3 1", "minute = 1", "minute = 1", "cancel 1 = 2",
            "minute = 0", "list 0 = nothing");
        Story.tell("a cancel in the last minute but one is sent once",
            "cell 0 0 1", "near 0 0", "text 0 1", "issue 1 1 1 3 1", "minute = 1", "cancel 1 = 2", "minute = 1",
            "pages 0 = 1.2/3.0:0", "minute = 0");
    }

    private static void linesAtFirst() {
        Story.tell("Each cell has a LINE to the centre, which is whole at first",
            "8 x cell 0 0 1", "line 0 whole = yes", "line 7 cut = yes", "line 7 cut = no", "line 7 whole = no",
            "line 7 whole = yes", "line 6 whole = yes");
        Story.tell("whether it was whole: each cell's line alone",
            "3 x cell 0 0 1", "line 1 cut = yes", "line 0 whole = yes", "line 2 whole = yes", "line 1 whole = no");
        Story.tell("a line that is cut and whole again between two minutes",
            "cell 0 0 1", "near 0 0", "text 0 1", "issue 1 1 1 9 1", "line 0 cut", "line 0 whole", "minute = 1",
            "list 0 = 1.1");
    }

    private static void cutLines() {
        Story.tell("With a line that is cut the list stays: an empty one",
            "cell 0 0 1", "line 0 cut", "near 0 0", "text 0 1", "issue 1 1 1 9 1 = 1", "minute = 0", "minute = 0",
            "list 0 = nothing");
        Story.tell("With a line that is cut the list stays: no issue, update or cancel comes",
            "cell 0 0 1", "near 0 0", "text 0 1", "issue 1 1 1 9 1", "near 0 0", "text 0 1", "issue 2 1 1 9 1",
            "minute = 2", "line 0 cut", "near 0 0", "text 1 1", "update 1 1 9 1 = 1", "cancel 2", "near 0 0", "text 0 1",
            "issue 3 1 2 9 1 = 1", "minute = 2", "list 0 = 1.1 2.1", "pages 0 = 1.1/0.0:1 2.1/0.0:1");
        Story.tell("but for versions whose end is not greater than the clock: the minute before, and the end",
            "cell 0 0 1", "near 0 0", "text 0 1", "issue 1 1 1 4 1", "near 0 0", "text 0 1", "issue 2 1 1 5 1",
            "near 0 0", "text 0 1", "issue 3 1 1 4 1", "minute = 3", "line 0 cut", "minute = 3", "minute = 3",
            "list 0 = 1.1 2.1 3.1", "minute = 1", "list 0 = 2.1", "minute = 0", "list 0 = nothing");
        Story.tell("a cell with a cut line sends by beginning and span as before",
            "cell 0 0 1", "near 0 0", "text 0 1", "issue 1 1 3 20 2", "minute = 0", "line 0 cut", "minute = 0",
            "minute = 1", "minute = 0", "minute = 1");
    }

    private static void mendedLines() {
        Story.tell("with a whole line its list is made anew: from the next minute on",
            "cell 0 0 1", "line 0 cut", "near 0 0", "text 0 1", "issue 1 1 1 9 1", "minute = 0", "line 0 whole = no",
            "list 0 = nothing", "minute = 1", "list 0 = 1.1");
        Story.tell("made anew: a newer version in the older one's place",
            "cell 0 0 1", "near 0 0", "text 0 1", "issue 1 1 1 9 1", "minute = 1", "line 0 cut", "near 0 0", "text 2 1",
            "update 1 1 9 1", "minute = 1", "pages 0 = 1.1/0.0:1", "line 0 whole", "pages 0 = 1.1/0.0:1", "minute = 1",
            "list 0 = 1.2", "pages 0 = 1.2/2.0:1");
        Story.tell("made anew: without what covers it no more",
            "cell 0 0 1", "near 0 0", "text 0 1", "issue 1 1 1 9 1", "minute = 1", "line 0 cut", "near 500 0",
            "text 2 1", "update 1 1 9 1", "minute = 1", "list 0 = 1.1", "line 0 whole", "minute = 0",
            "list 0 = nothing");
    }

    private static void cancelsAndCutLines() {
        Story.tell("a cancel comes when the line is whole again, if the warning is still listed",
            "cell 0 0 1", "near 0 0", "text 0 1", "issue 1 1 1 9 1", "minute = 1", "line 0 cut", "cancel 1",
            "minute = 1", "list 0 = 1.1", "line 0 whole", "minute = 1", "list 0 = -1.2");
        Story.tell("a cancel comes not when what was listed ended while the line was cut",
            "cell 0 0 1", "near 0 0", "text 0 1", "issue 1 1 1 3 1", "minute = 1", "line 0 cut", "near 0 0", "text 0 1",
            "update 1 1 9 1", "cancel 1", "minute = 1", "minute = 0", "list 0 = nothing", "line 0 whole", "minute = 0",
            "list 0 = nothing");
        Story.tell("a listed cancel stays when the line is cut, until its end",
            "cell 0 0 1", "near 0 0", "text 0 1", "issue 1 1 1 5 1", "minute = 1", "cancel 1", "minute = 1",
            "line 0 cut", "minute = 1", "minute = 1", "list 0 = -1.2", "minute = 0", "list 0 = nothing");
    }

    private static void lineBounds() {
        Story.tell("line: IndexOutOfBounds: there is no such cell",
            "line 0 whole ! bounds", "cell 0 0 1", "line 0 whole = yes", "line 1 whole ! bounds",
            "line 1 cut ! bounds", "line -1 cut ! bounds", "line MAX cut ! bounds", "line MIN cut ! bounds",
            "7 x cell 0 0 1", "line 7 cut = yes", "line 8 cut ! bounds");
    }

    private static void listedBounds() {
        Story.tell("listed: IndexOutOfBounds: there is no such cell",
            "listed 0 0 0 ! bounds", "2 x cell 0 0 1", "near 0 0", "text 0 1", "issue 1 1 1 9 1", "minute = 2",
            "listed 0 0 0 = 1", "listed 1 0 0 = 1", "listed 2 0 0 ! bounds", "listed -1 0 0 ! bounds",
            "listed MAX 0 0 ! bounds", "listed MIN 0 0 ! bounds");
        Story.tell("listed: IndexOutOfBounds: there is no such version",
            "cell 0 0 1", "listed 0 0 0 ! bounds", "near 0 0", "text 0 1", "issue 1 1 1 3 1", "near 0 0", "text 0 1",
            "issue 2 1 1 4 1", "listed 0 0 0 ! bounds", "minute = 2", "listed 0 -1 0 ! bounds", "listed 0 0 0 = 1",
            "listed 0 1 0 = 2", "listed 0 2 0 ! bounds", "listed 0 MAX 0 ! bounds", "listed 0 MIN 0 ! bounds",
            "minute = 2", "minute = 1", "listed 0 0 0 = 2", "listed 0 1 0 ! bounds");
        Story.tell("listed: id (0), number (1), severity (2), end (3), 1 if it is spoken (4); another what",
            "cell 0 0 1", "near 0 0", "text 0 1", "issue 77 4 3 9 1", "minute = 0", "listed 0 0 -1 ! argument",
            "listed 0 0 0 = 77", "listed 0 0 1 = 1", "listed 0 0 2 = 4", "listed 0 0 3 = 9", "listed 0 0 4 = 1",
            "listed 0 0 5 ! argument", "listed 0 0 MAX ! argument", "listed 0 0 MIN ! argument");
    }

    private static void sentBounds() {
        Story.tell("sent: IndexOutOfBounds: there is no such cell",
            "sent 0 0 0 ! bounds", "2 x cell 0 0 1", "near 0 0", "text 0 1", "issue 1 1 1 9 1", "minute = 2",
            "sent 0 0 0 = 1", "sent 1 0 0 = 1", "sent 2 0 0 ! bounds", "sent -1 0 0 ! bounds", "sent MAX 0 0 ! bounds",
            "sent MIN 0 0 ! bounds");
        Story.tell("sent: IndexOutOfBounds: there is no such page",
            "cell 0 0 1", "sent 0 0 0 ! bounds", "near 0 0", "bytes 0 11", "issue 1 1 1 9 2", "sent 0 0 0 ! bounds",
            "minute = 2", "sent 0 -1 0 ! bounds", "sent 0 0 0 = 1", "sent 0 1 0 = 1", "sent 0 2 0 ! bounds",
            "sent 0 MAX 0 ! bounds", "sent 0 MIN 0 ! bounds", "minute = 0", "sent 0 0 0 ! bounds");
        Story.tell("sent: id (0), version (1), language (2), number (3), bytes (4); another what",
            "cell 0 0 1", "near 0 0", "bytes 2 13", "issue 77 4 1 9 1", "minute = 2", "sent 0 1 -1 ! argument",
            "sent 0 1 0 = 77", "sent 0 1 1 = 1", "sent 0 1 2 = 2", "sent 0 1 3 = 1", "sent 0 1 4 = 3",
            "sent 0 1 5 ! argument", "sent 0 1 MAX ! argument", "sent 0 1 MIN ! argument");
    }

    private static void sentInTheLatestMinute() {
        Story.tell("that a cell sent in the latest minute: not in the one before",
            "cell 0 0 1", "near 0 0", "bytes 0 21", "issue 1 1 1 9 2", "minute = 3", "pages 0 = 1.1/0.0:10 1.1/0.1:10 "
            + "1.1/0.2:1", "minute = 0", "pages 0 = nothing", "minute = 3", "sent 0 2 4 = 1");
        Story.tell("that a cell sent in the latest minute: whatever is called behind it",
            "cell 0 0 1", "near 0 0", "bytes 0 2", "issue 1 1 1 9 2", "minute = 1", "cancel 1", "line 0 cut",
            "cell 0 0 1", "clear = 0", "pages 0 = 1.1/0.0:2", "list 0 = 1.1", "pages 1 = nothing");
    }
}
