/** Promises 12, 13, 14, 19, 20 and 21: likes, camp, miss, shown, shownByte, alarms. */
public final class HandsetsTest {
    public static void main(String[] args) {
        likesInputs();
        campInputs();
        missInputs();
        choosing();
        likingLater();
        gatheringOverMinutes();
        languagesAreHeldApart();
        newerVersions();
        olderPagesDoNothing();
        currentOnes();
        alarms();
        campingElsewhere();
        shownInputs();
        Check.finish();
    }

    private static AreaWarnings withHandset() {
        AreaWarnings w = new AreaWarnings();
        w.cell(0, 0, 1);
        w.handset(3);
        w.camp(0, 0);
        return w;
    }

    private static void likesInputs() {
        AreaWarnings w = new AreaWarnings();
        Check.bounds("no handset", () -> w.likes(0, 0));
        w.handset(0);
        Check.bounds("below", () -> w.likes(-1, 9));
        Check.bounds("above", () -> w.likes(1, 9));
        Check.argument("language 3", () -> w.likes(0, 3));
        Check.argument("language -1", () -> w.likes(0, -1));
        Check.equal("one", 1, w.likes(0, 2));
        Check.equal("two, the same", 2, w.likes(0, 2));
        Check.equal("three", 3, w.likes(0, 0));
        Check.argument("argument before state", () -> w.likes(0, 3));
        Check.state("four", () -> w.likes(0, 1));
    }

    private static void campInputs() {
        AreaWarnings w = new AreaWarnings();
        Check.bounds("no handset", () -> w.camp(0, AreaWarnings.NONE));
        w.handset(0);
        Check.bounds("no cell", () -> w.camp(0, 0));
        w.cell(0, 0, 1);
        w.cell(0, 0, 1);
        Check.equal("nowhere before", AreaWarnings.NONE, w.camp(0, 1));
        Check.bounds("no such cell", () -> w.camp(0, 2));
        Check.bounds("below NONE", () -> w.camp(0, -2));
        Check.bounds("no such handset", () -> w.camp(1, 0));
        Check.equal("1 before", 1, w.camp(0, AreaWarnings.NONE));
        Check.equal("nowhere before", AreaWarnings.NONE, w.camp(0, 0));
        Check.equal("0 before", 0, w.camp(0, 0));
    }

    private static void missInputs() {
        AreaWarnings w = withHandset();
        Check.bounds("no such handset", () -> w.miss(1, -1));
        Check.bounds("below", () -> w.miss(-1, 0));
        Check.argument("n -1", () -> w.miss(0, -1));
        Check.argument("n 1001", () -> w.miss(0, 1001));
        Check.equal("none", 0, w.miss(0, 0));
        Check.equal("many", 1000, w.miss(0, 1000));
        Check.equal("more", 1002, w.miss(0, 2));
        Typing.near(w, 0, 0, "0123456789a");
        w.issue(1, 1, 1, 9, 1);
        w.minute();
        Check.equal("two pages are missed", 1000, w.miss(0, 0));
        w.camp(0, AreaWarnings.NONE);
        w.minute();
        Check.equal("nowhere none is missed", 1000, w.miss(0, 0));
        Check.same("none is shown", "", Typing.screen(w, 0));
    }

    private static void choosing() {
        AreaWarnings w = withHandset();
        w.handset(0);
        w.camp(1, 0);
        w.likes(0, 2);
        w.likes(0, 1);
        Typing.near(w, 0, 0, "zero");
        Typing.text(w, 1, "one");
        w.issue(1, 5, 1, 9, 1);
        Typing.near(w, 0, 0, "zero");
        Typing.text(w, 1, "one");
        Typing.text(w, 2, "two");
        w.issue(2, 4, 1, 9, 1);
        Typing.near(w, 0, 0, "zero");
        w.issue(3, 3, 1, 9, 1);
        Typing.corners(w, 0, 0, 9, 0, 0, 9);
        Typing.text(w, 2, "two");
        w.issue(4, 2, 1, 9, 1);
        w.minute();
        Check.same("likes 2, 1", "1.1/1@1=one! 2.1/2@1=two! 3.1/0@1=zero! 4.1/2@1=two!", Typing.screen(w, 0));
        Check.same("likes none", "1.1/0@1=zero! 2.1/0@1=zero! 3.1/0@1=zero! 4.1/2@1=two!", Typing.screen(w, 1));
    }

    private static void likingLater() {
        AreaWarnings w = withHandset();
        Typing.near(w, 0, 0, "zero");
        Typing.text(w, 1, "one");
        w.issue(1, 5, 1, 9, 1);
        w.miss(0, 1);
        w.minute();
        Check.same("holds another language", "", Typing.screen(w, 0));
        Check.equal("likes it", 1, w.likes(0, 1));
        Check.same("liking alone shows nothing", "", Typing.screen(w, 0));
        w.minute();
        Check.same("the next page shows it", "1.1/1@2=one!", Typing.screen(w, 0));
        w.minute();
        Check.same("once", "1.1/1@2=one!", Typing.screen(w, 0));
    }

    private static void gatheringOverMinutes() {
        AreaWarnings w = withHandset();
        Typing.near(w, 0, 0, "0123456789abcdefghijABCDEFGHIJ");
        w.issue(1, 5, 1, 9, 2);
        w.miss(0, 1);
        Check.equal("three pages", 3, w.minute());
        Check.same("the first is wanting", "", Typing.screen(w, 0));
        w.minute();
        Check.same("none sent", "", Typing.screen(w, 0));
        w.minute();
        Check.same("whole", "1.1/0@3=0123456789abcdefghijABCDEFGHIJ!", Typing.screen(w, 0));
        Check.equal("bytes", 30, w.shown(0, 0, 5));
        Check.equal("alarm", 1, w.total(10));
    }

    private static void languagesAreHeldApart() {
        for (int missed = 1; missed <= 6; missed++) {
            AreaWarnings w = withHandset();
            w.likes(0, 1);
            Typing.corners(w, 0, 0, 9, 0, 0, 9);
            for (int language = 0; language < 3; language++) {
                Typing.text(w, language, "0123456789abcdefghijABCDEFGHIJ");
            }
            w.issue(1, 5, 1, 9, 1000);
            w.miss(0, missed);
            w.minute();
            String due = missed <= 3 ? "1.1/1@1=0123456789abcdefghijABCDEFGHIJ!" : "";
            Check.same("the first " + missed + " of nine pages are missed", due, Typing.screen(w, 0));
        }
    }

    private static void newerVersions() {
        AreaWarnings w = withHandset();
        Typing.near(w, 0, 0, "0123456789a");
        w.issue(1, 5, 1, 9, 1);
        w.miss(0, 1);
        w.minute();
        Typing.near(w, 0, 0, "0123456789b");
        w.update(1, 2, 9, 1);
        w.minute();
        Check.same("the newer one alone", "1.2/0@2=0123456789b!", Typing.screen(w, 0));
        Typing.near(w, 0, 0, "0123456789c");
        w.update(1, 2, 9, 1);
        w.miss(0, 1);
        w.minute();
        Check.same("pages of other versions do not fill it", "1.2/0@2=0123456789b", Typing.screen(w, 0));
        w.minute();
        Check.same("whole", "1.2/0@2=0123456789b 1.3/0@4=0123456789c!", Typing.screen(w, 0));
        Check.equal("no alarms", 0, w.total(10));
    }

    private static void olderPagesDoNothing() {
        AreaWarnings w = withHandset();
        w.cell(0, 0, 1);
        Typing.near(w, 0, 0, "old");
        w.issue(1, 5, 1, 20, 1);
        w.camp(0, AreaWarnings.NONE);
        w.minute();
        w.line(0, false);
        w.cancel(1);
        w.camp(0, 1);
        w.minute();
        w.camp(0, 0);
        w.minute();
        Check.same("the cell sends it", "1.1/0.0:3", Typing.pages(w, 0));
        Check.same("older than the cancel", "", Typing.screen(w, 0));
        w.handset(0);
        w.camp(1, 0);
        w.minute();
        Check.same("a handset that heard no cancel", "1.1/0@4=old!", Typing.screen(w, 1));
        w.camp(1, 1);
        w.miss(1, 1);
        w.minute();
        Check.equal("a missed cancel", 1, w.shown(1, 0, 4));
        w.minute();
        Check.equal("a heard cancel", 0, w.shown(1, 0, 4));
        w.camp(1, 0);
        w.minute();
        Check.same("not again", "1.1/0@4=old", Typing.screen(w, 1));
    }

    private static void currentOnes() {
        AreaWarnings w = withHandset();
        Typing.near(w, 0, 0, "a");
        w.issue(1, 5, 1, 3, 1);
        w.minute();
        Check.equal("current", 1, w.shown(0, 0, 4));
        w.camp(0, AreaWarnings.NONE);
        Typing.near(w, 0, 0, "b");
        w.update(1, 5, 9, 1);
        w.minute();
        Check.equal("a newer one is not heard", 1, w.shown(0, 0, 4));
        w.minute();
        Check.equal("its own end", 0, w.shown(0, 0, 4));
        w.camp(0, 0);
        w.minute();
        Check.same("both", "1.1/0@1=a 1.2/0@4=b!", Typing.screen(w, 0));
    }

    private static void alarms() {
        AreaWarnings w = new AreaWarnings();
        w.cell(0, 0, 1);
        int[] thresholds = {0, 3, 5};
        for (int h = 0; h < 3; h++) {
            w.handset(thresholds[h]);
            w.camp(h, 0);
        }
        for (int severity = 1; severity <= 4; severity++) {
            Typing.near(w, 0, 0, "a");
            w.issue(severity, severity, 1, 9, 1);
        }
        w.minute();
        w.minute();
        Check.equal("threshold 0", 4, w.total(10));
        Check.equal("threshold 3", 2, w.total(11));
        Check.equal("threshold 5", 0, w.total(12));
        Check.equal("all are shown", 1, w.shown(2, 3, 0));
    }

    private static void campingElsewhere() {
        AreaWarnings w = withHandset();
        w.cell(500, 0, 1);
        Typing.near(w, 0, 0, "0123456789a");
        w.issue(1, 5, 1, 9, 1);
        Typing.near(w, 500, 0, "b");
        w.issue(2, 5, 1, 9, 1);
        w.miss(0, 1);
        w.minute();
        w.camp(0, 1);
        w.minute();
        w.camp(0, 0);
        w.miss(0, 0);
        w.minute();
        Check.same("pages are kept meanwhile", "2.1/0@2=b! 1.1/0@3=0123456789a!", Typing.screen(w, 0));
    }

    private static void shownInputs() {
        AreaWarnings w = withHandset();
        Check.bounds("nothing shown", () -> w.shown(0, 0, 9));
        Check.bounds("no byte of nothing", () -> w.shownByte(0, 0, 0));
        Typing.corners(w, 0, 0, 9, 0, 0, 9);
        w.text(1, 255);
        w.text(1, 0);
        w.issue(8, 5, 1, 9, 1);
        w.minute();
        int[] due = {8, 1, 1, 1, 1, 2};
        for (int what = 0; what < due.length; what++) {
            Check.equal("shown " + what, due[what], w.shown(0, 0, what));
        }
        Check.argument("what 6", () -> w.shown(0, 0, 6));
        Check.argument("what -1", () -> w.shown(0, 0, -1));
        Check.bounds("no such handset first", () -> w.shown(1, 0, 6));
        Check.bounds("no such version first", () -> w.shown(0, 1, 6));
        Check.bounds("below", () -> w.shown(0, -1, 0));
        Check.equal("byte 0", 255, w.shownByte(0, 0, 0));
        Check.equal("byte 1", 0, w.shownByte(0, 0, 1));
        Check.bounds("byte 2", () -> w.shownByte(0, 0, 2));
        Check.bounds("byte -1", () -> w.shownByte(0, 0, -1));
        Check.bounds("version 1", () -> w.shownByte(0, 1, 0));
        Check.bounds("version -1", () -> w.shownByte(0, -1, 0));
        Check.bounds("handset 1", () -> w.shownByte(1, 0, 0));
        Check.bounds("handset -1", () -> w.shownByte(-1, 0, 0));
    }
}
