/** Promises 9, 10, 17 and 18: minutes, lines, lists, pages. */
public final class CellsTest {
    public static void main(String[] args) {
        orderOfListsAndPages();
        pagesOfTexts();
        beginSpanAndEnd();
        cancelsFollowTheList();
        cancelsAreSentEachMinute();
        cutLines();
        listsEndAndAreMended();
        laterCells();
        wrongInputs();
        fullestMinute();
        Check.finish();
    }

    private static void issueNear(AreaWarnings w, int x, int id, int severity, int begin, int end) {
        Typing.near(w, x, 0, "a");
        w.issue(id, severity, begin, end, 1);
    }

    private static void orderOfListsAndPages() {
        AreaWarnings w = new AreaWarnings();
        w.cell(0, 0, 1);
        issueNear(w, 0, 900, 3, 1, 9);
        issueNear(w, 0, 5, 1, 1, 9);
        issueNear(w, 0, 70, 3, 1, 9);
        issueNear(w, 0, 6, 5, 2, 9);
        Check.same("no list before a minute", "", Typing.list(w, 0));
        Check.equal("pages", 3, w.minute());
        Check.same("by id", "5.1 6.1 70.1 900.1", Typing.list(w, 0));
        Check.same("by severity, id", "70.1/0.0:1 900.1/0.0:1 5.1/0.0:1", Typing.pages(w, 0));
        w.cancel(5);
        Check.equal("pages", 4, w.minute());
        Check.same("by id", "-5.2 6.1 70.1 900.1", Typing.list(w, 0));
        Check.same("by severity, id", "6.1/0.0:1 70.1/0.0:1 900.1/0.0:1 5.2/3.0:0", Typing.pages(w, 0));
        Check.equal("severity", 5, w.listed(0, 1, 2));
        Check.equal("end", 9, w.listed(0, 1, 3));
        Check.equal("spoken", 1, w.listed(0, 1, 4));
    }

    private static void pagesOfTexts() {
        AreaWarnings w = new AreaWarnings();
        w.cell(0, 0, 1);
        Typing.corners(w, 0, 0, 9, 0, 0, 9);
        Typing.text(w, 2, "0123456789");
        Typing.text(w, 0, "012345678901234567890123456789");
        w.issue(1, 1, 1, 9, 1);
        Typing.corners(w, 0, 0, 9, 0, 0, 9);
        Typing.text(w, 1, "01234567890");
        Typing.text(w, 2, "012345678");
        w.issue(2, 1, 1, 9, 1);
        Check.equal("pages", 7, w.minute());
        Check.same("pages", "1.1/0.0:10 1.1/0.1:10 1.1/0.2:10 1.1/2.0:10 2.1/1.0:10 2.1/1.1:1 2.1/2.0:9",
            Typing.pages(w, 0));
    }

    private static void beginSpanAndEnd() {
        AreaWarnings w = new AreaWarnings();
        w.cell(0, 0, 1);
        Typing.near(w, 0, 0, "a");
        w.issue(1, 1, 2, 7, 3);
        int[] due = {0, 1, 0, 0, 1, 0, 0, 0, 0};
        for (int m = 0; m < due.length; m++) {
            Check.equal("minute " + (m + 1), due[m], w.minute());
            Check.same("list at " + (m + 1), m + 1 < 7 ? "1.1" : "", Typing.list(w, 0));
        }
        Check.equal("clock", 9, w.total(0));
    }

    private static void cancelsFollowTheList() {
        AreaWarnings w = new AreaWarnings();
        w.cell(0, 0, 1);
        w.cell(500, 0, 1);
        issueNear(w, 0, 1, 1, 1, 20);
        w.minute();
        Typing.near(w, 500, 0, "b");
        w.update(1, 1, 20, 1);
        w.minute();
        Check.same("left", "", Typing.list(w, 0));
        w.cancel(1);
        Check.equal("one cell tells of it", 1, w.minute());
        Check.same("listed long before", "", Typing.list(w, 0));
        Check.same("listed just before", "-1.3", Typing.list(w, 1));
        issueNear(w, 0, 2, 1, 4, 20);
        w.minute();
        Typing.near(w, 500, 0, "b");
        w.update(2, 1, 20, 1);
        w.cancel(2);
        w.minute();
        Check.same("update and cancel in one minute", "-2.3", Typing.list(w, 0));
        Check.same("the update was not listed", "-1.3", Typing.list(w, 1));
        issueNear(w, 0, 3, 1, 6, 20);
        w.cancel(3);
        w.minute();
        Check.same("cancelled before it was listed", "-2.3", Typing.list(w, 0));
    }

    private static void cancelsAreSentEachMinute() {
        AreaWarnings w = new AreaWarnings();
        w.cell(0, 0, 1);
        Typing.near(w, 0, 0, "a");
        w.issue(1, 2, 3, 6, 1000);
        Check.equal("before its beginning", 0, w.minute());
        w.cancel(1);
        for (int m = 2; m < 6; m++) {
            Check.equal("cancel at " + m, 1, w.minute());
            Check.same("page at " + m, "1.2/3.0:0", Typing.pages(w, 0));
        }
        Check.equal("its end", 0, w.minute());
        Check.same("its end", "", Typing.list(w, 0));
    }

    private static void cutLines() {
        AreaWarnings w = new AreaWarnings();
        w.cell(0, 0, 1);
        Check.bounds("no such cell", () -> w.line(1, true));
        Check.bounds("below", () -> w.line(-1, true));
        issueNear(w, 0, 1, 1, 1, 4);
        issueNear(w, 0, 2, 1, 1, 9);
        w.minute();
        Check.isTrue("whole at first", w.line(0, false));
        Check.isFalse("cut", w.line(0, false));
        w.cancel(2);
        issueNear(w, 0, 3, 1, 2, 9);
        Typing.near(w, 0, 0, "b");
        w.update(1, 1, 9, 1);
        Check.equal("old pages go on", 2, w.minute());
        Check.same("the old list", "1.1 2.1", Typing.list(w, 0));
        w.minute();
        w.minute();
        Check.same("an end while cut", "2.1", Typing.list(w, 0));
        Check.isFalse("was cut", w.line(0, true));
        w.minute();
        Check.same("mended", "1.2 -2.2 3.1", Typing.list(w, 0));
        Check.isTrue("whole", w.line(0, true));
        w.line(0, false);
        w.minute();
        Check.same("a cancel stays", "1.2 -2.2 3.1", Typing.list(w, 0));
    }

    private static void listsEndAndAreMended() {
        AreaWarnings w = new AreaWarnings();
        w.cell(0, 0, 1);
        issueNear(w, 0, 1, 1, 1, 3);
        issueNear(w, 0, 2, 1, 1, 4);
        w.minute();
        w.line(0, false);
        for (int id = 1; id <= 2; id++) {
            Typing.near(w, 0, 0, "b");
            w.update(id, 1, 9, 1);
            w.cancel(id);
        }
        w.minute();
        w.minute();
        Check.same("one has ended", "2.1", Typing.list(w, 0));
        w.line(0, true);
        w.minute();
        Check.same("just the one that was listed is cancelled", "-2.3", Typing.list(w, 0));
    }

    private static void laterCells() {
        AreaWarnings w = new AreaWarnings();
        issueNear(w, 0, 1, 1, 1, 9);
        Check.equal("no cells", 0, w.minute());
        Check.equal("cell", 0, w.cell(0, 0, 1));
        Check.equal("cell", 1, w.cell(0, 500, 1));
        Check.same("no list yet", "", Typing.list(w, 0));
        Check.equal("pages", 1, w.minute());
        Check.same("list", "1.1", Typing.list(w, 0));
        Check.same("list elsewhere", "", Typing.list(w, 1));
    }

    private static void wrongInputs() {
        AreaWarnings w = new AreaWarnings();
        Check.bounds("no cell, wrong what", () -> w.listed(0, 0, 9));
        Check.bounds("no cell, wrong what", () -> w.sent(0, 0, 9));
        w.cell(0, 0, 1);
        issueNear(w, 0, 1, 1, 1, 9);
        w.minute();
        for (int what : new int[] {-1, 5, Integer.MAX_VALUE}) {
            Check.argument("listed what " + what, () -> w.listed(0, 0, what));
            Check.argument("sent what " + what, () -> w.sent(0, 0, what));
            Check.bounds("listed version first " + what, () -> w.listed(0, 1, what));
            Check.bounds("sent page first " + what, () -> w.sent(0, 1, what));
        }
        Check.bounds("listed below", () -> w.listed(0, -1, 0));
        Check.bounds("sent below", () -> w.sent(0, -1, 0));
        Check.bounds("listed cell", () -> w.listed(-1, 0, 0));
        Check.bounds("sent cell", () -> w.sent(1, 0, 0));
        w.cancel(1);
        Check.same("pages of the latest minute stay", "1.1/0.0:1", Typing.pages(w, 0));
        Check.same("the list stays till the next minute", "1.1", Typing.list(w, 0));
    }

    /** Five such warnings are as many as 512 calls leave room for. */
    private static void fullestMinute() {
        AreaWarnings w = new AreaWarnings();
        for (int c = 0; c < 8; c++) {
            w.cell(0, 0, 1);
        }
        for (int id = 1; id <= 5; id++) {
            Typing.corners(w, -10, -10, 10, -10, 0, 10);
            for (int language = 0; language < 3; language++) {
                Typing.text(w, language, "012345678901234567890123456789");
            }
            Check.equal("covers all", 8, w.issue(id, id, 1, 9, 1));
        }
        Check.equal("all pages", 8 * 5 * 9, w.minute());
        Check.equal("the last page", 2, w.sent(7, 44, 3));
        Check.bounds("no more", () -> w.sent(7, 45, 0));
    }
}
