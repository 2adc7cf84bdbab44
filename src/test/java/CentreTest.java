/** Promises 6, 7, 8, 16 and 21: issue, update, cancel, version, total. */
public final class CentreTest {
    public static void main(String[] args) {
        issueArguments();
        issueOrder();
        mostWarnings();
        mostVersions();
        updating();
        updateBeginsNextMinute();
        cancelling();
        totals();
        Check.finish();
    }

    private static AreaWarnings typed() {
        AreaWarnings w = new AreaWarnings();
        w.cell(0, 0, 1);
        Typing.near(w, 0, 0, "a");
        return w;
    }

    private static void issueArguments() {
        AreaWarnings w = typed();
        Check.argument("id 0", () -> w.issue(0, 1, 1, 2, 1));
        Check.argument("id 1001", () -> w.issue(1001, 1, 1, 2, 1));
        Check.argument("severity 0", () -> w.issue(1, 0, 1, 2, 1));
        Check.argument("severity 6", () -> w.issue(1, 6, 1, 2, 1));
        Check.argument("begin at the clock", () -> w.issue(1, 1, 0, 2, 1));
        Check.argument("begin far below", () -> w.issue(1, 1, Integer.MIN_VALUE, 2, 1));
        Check.argument("end at begin", () -> w.issue(1, 1, 2, 2, 1));
        Check.argument("end below begin", () -> w.issue(1, 1, 3, 2, 1));
        Check.argument("span 0", () -> w.issue(1, 1, 1, 2, 0));
        Check.argument("span 1001", () -> w.issue(1, 1, 1, 2, 1001));
        Check.equal("nothing made", 0, w.total(2) + w.total(3));
        Check.equal("still typed", 1, w.issue(1000, 5, 1, 2, 1000));
        w.minute();
        Typing.near(w, 0, 0, "a");
        Check.argument("begin at a later clock", () -> w.issue(2, 1, 1, 9, 1));
        Check.equal("begin above a later clock", 1, w.issue(2, 1, 2, 3, 1));
        Check.equal("the last id", 1, w.version(1000));
    }

    private static void issueOrder() {
        AreaWarnings w = typed();
        w.issue(1, 1, 1, 9, 1);
        Check.argument("argument first", () -> w.issue(1, 9, 1, 9, 1));
        Check.unsupported("typed next", () -> w.issue(1, 1, 1, 9, 1));
        Typing.corners(w, 0, 0, 9, 0, 0, 9);
        Check.unsupported("no language", () -> w.issue(2, 1, 1, 9, 1));
        w.text(2, 5);
        Check.state("used id", () -> w.issue(1, 1, 1, 9, 1));
        Check.equal("another id", 1, w.issue(2, 1, 1, 9, 1));
        w.cancel(2);
        Typing.near(w, 0, 0, "a");
        Check.state("cancelled id", () -> w.issue(2, 1, 1, 9, 1));
        for (int n = 0; n < 10; n++) {
            w.minute();
        }
        Check.state("ended id", () -> w.issue(1, 1, 11, 19, 1));
        Check.equal("still typed", 5, w.clear());
    }

    private static void mostWarnings() {
        AreaWarnings w = new AreaWarnings();
        for (int id = 1; id <= 12; id++) {
            Typing.near(w, 0, 0, "a");
            Check.equal("no cells", 0, w.issue(id, 1, 1, 9, 1));
        }
        Typing.near(w, 0, 0, "a");
        Check.state("warning 13", () -> w.issue(13, 1, 1, 9, 1));
        Check.equal("warnings", 12, w.total(2));
        Check.equal("versions", 12, w.total(3));
        Check.equal("updates go on", 0, w.update(12, 1, 9, 1));
    }

    private static void mostVersions() {
        AreaWarnings w = typed();
        w.issue(1, 1, 1, 9, 1);
        for (int n = 2; n <= 39; n++) {
            Typing.near(w, 0, 0, "a");
            w.update(1, 1, 9, 1);
            Check.equal("version", n, w.version(1));
        }
        Typing.near(w, 0, 0, "a");
        Check.equal("the fortieth", 1, w.issue(2, 1, 1, 9, 1));
        Typing.near(w, 0, 0, "a");
        Check.state("41 by update", () -> w.update(1, 1, 9, 1));
        Check.state("41 by issue", () -> w.issue(3, 1, 1, 9, 1));
        Check.state("41 by cancel", () -> w.cancel(1));
        Check.equal("versions", 40, w.total(3));
        Check.equal("still the newest", 39, w.version(1));
        Check.equal("still typed", 5, w.clear());
    }

    private static void updating() {
        AreaWarnings w = typed();
        w.cell(500, 0, 1);
        Check.state("nothing issued", () -> w.update(1, 1, 9, 1));
        w.issue(1, 1, 1, 3, 1);
        Check.unsupported("nothing typed", () -> w.update(1, 1, 9, 1));
        Typing.text(w, 1, "b");
        Check.unsupported("no area", () -> w.update(1, 1, 9, 1));
        Typing.corners(w, 490, 0, 510, 0, 500, 10);
        Check.argument("severity 0", () -> w.update(1, 0, 9, 1));
        Check.argument("severity 6", () -> w.update(1, 6, 9, 1));
        Check.argument("span 0", () -> w.update(1, 1, 9, 0));
        Check.argument("span 1001", () -> w.update(1, 1, 9, 1001));
        Check.argument("end at the next minute", () -> w.update(1, 1, 1, 1));
        Check.argument("argument before no warning", () -> w.update(77, 1, 1, 1));
        Check.state("no such warning", () -> w.update(77, 1, 2, 1));
        Check.state("no such id", () -> w.update(-1, 1, 2, 1));
        Check.equal("version 2", 1, w.update(1, 5, 2, 1000));
        Check.equal("nothing typed then", 0, w.clear());
        w.minute();
        Check.same("where it was", "", Typing.list(w, 0));
        Check.same("where it is", "1.2", Typing.list(w, 1));
        w.minute();
        Typing.near(w, 0, 0, "c");
        Check.state("the newest has ended", () -> w.update(1, 1, 9, 1));
        w.issue(2, 1, 3, 4, 1);
        w.cancel(2);
        Typing.near(w, 0, 0, "c");
        Check.state("cancelled", () -> w.update(2, 1, 9, 1));
    }

    private static void updateBeginsNextMinute() {
        AreaWarnings w = typed();
        w.issue(1, 2, 9, 20, 1);
        w.minute();
        w.minute();
        Typing.near(w, 0, 0, "b");
        Check.argument("end at its beginning", () -> w.update(1, 2, 3, 1));
        Check.equal("update", 1, w.update(1, 2, 30, 3));
        Check.equal("its beginning", 1, w.minute());
        Check.equal("1 later", 0, w.minute());
        Check.equal("2 later", 0, w.minute());
        Check.equal("its span later", 1, w.minute());
    }

    private static void cancelling() {
        AreaWarnings w = typed();
        Check.state("nothing issued", () -> w.cancel(1));
        w.issue(1, 4, 1, 5, 2);
        Typing.near(w, 0, 0, "typed");
        w.minute();
        Check.equal("number", 2, w.cancel(1));
        Check.equal("version", 2, w.version(1));
        Check.equal("versions", 2, w.total(3));
        Check.state("again", () -> w.cancel(1));
        Check.equal("typing stays", 9, w.clear());
        w.minute();
        Check.equal("severity of the one before", 4, w.listed(0, 0, 2));
        Check.equal("end of the one before", 5, w.listed(0, 0, 3));
        Check.equal("not spoken", 0, w.listed(0, 0, 4));
        Typing.near(w, 0, 0, "b");
        w.issue(2, 1, 3, 4, 1);
        w.minute();
        w.minute();
        Check.state("ended", () -> w.cancel(2));
        Typing.near(w, 0, 0, "b");
        w.issue(3, 1, 8, 9, 1);
        Check.equal("before its beginning", 2, w.cancel(3));
    }

    private static void totals() {
        AreaWarnings w = typed();
        w.cell(0, 0, 1);
        w.issue(1, 3, 1, 9, 1);
        w.cancel(1);
        w.handset(1);
        w.handset(1);
        w.handset(1);
        for (int n = 0; n < 7; n++) {
            w.minute();
        }
        int[] due = {7, 2, 1, 2, 3};
        for (int what = 0; what < due.length; what++) {
            Check.equal("total " + what, due[what], w.total(what));
        }
        for (int what : new int[] {-1, 5, 9, 13, Integer.MAX_VALUE, Integer.MIN_VALUE, Integer.MIN_VALUE + 9}) {
            Check.equal("total " + what, AreaWarnings.NONE, w.total(what));
        }
        for (int what = 10; what <= 12; what++) {
            Check.equal("total " + what, 0, w.total(what));
        }
        for (int id : new int[] {0, -1, 2, 1001, Integer.MAX_VALUE, Integer.MIN_VALUE}) {
            Check.equal("version of " + id, 0, w.version(id));
        }
    }
}
