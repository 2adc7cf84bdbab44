/** Promises 1 to 5 and 11: a new object, cells, corners, texts, clear, handsets. */
public final class MakingAndTypingTest {
    public static void main(String[] args) {
        newObject();
        cells();
        cornersAreTyped();
        textsAreTyped();
        clearing();
        handsets();
        Check.finish();
    }

    private static void newObject() {
        AreaWarnings w = new AreaWarnings();
        for (int what = 0; what <= 4; what++) {
            Check.equal("new total " + what, 0, w.total(what));
        }
        Check.equal("new clear", 0, w.clear());
        Check.equal("new total 10", AreaWarnings.NONE, w.total(10));
        Check.bounds("new line", () -> w.line(0, true));
        Check.bounds("new camp", () -> w.camp(0, AreaWarnings.NONE));
        Check.bounds("new listed", () -> w.listed(0, 0, 0));
        Check.bounds("new sent", () -> w.sent(0, 0, 0));
        Check.bounds("new shown", () -> w.shown(0, 0, 0));
        Check.equal("new version", 0, w.version(1));
        Check.equal("first corner", 1, w.corner(0, 0));
        Check.equal("first byte", 1, w.text(0, 0));
        Check.equal("another object", 0, new AreaWarnings().clear());
    }

    private static void cells() {
        AreaWarnings w = new AreaWarnings();
        Check.argument("x low", () -> w.cell(-1001, 0, 1));
        Check.argument("x high", () -> w.cell(1001, 0, 1));
        Check.argument("y low", () -> w.cell(0, -1001, 1));
        Check.argument("y high", () -> w.cell(0, 1001, 1));
        Check.argument("radius low", () -> w.cell(0, 0, 0));
        Check.argument("radius high", () -> w.cell(0, 0, 2001));
        Check.argument("radius far", () -> w.cell(0, 0, Integer.MIN_VALUE));
        Check.equal("cell 0", 0, w.cell(-1000, -1000, 1));
        Check.equal("cell 1", 1, w.cell(1000, 1000, 2000));
        for (int c = 2; c < 8; c++) {
            Check.equal("a cell", c, w.cell(0, 0, 5));
        }
        Check.state("ninth cell", () -> w.cell(0, 0, 5));
        Check.argument("ninth cell, wrong", () -> w.cell(0, 0, 0));
        Check.equal("cells", 8, w.total(1));
    }

    private static void cornersAreTyped() {
        AreaWarnings w = new AreaWarnings();
        Check.argument("x low", () -> w.corner(-1001, 0));
        Check.argument("x high", () -> w.corner(1001, 0));
        Check.argument("y low", () -> w.corner(0, -1001));
        Check.argument("y high", () -> w.corner(0, 1001));
        Check.equal("corner 1", 1, w.corner(-1000, 1000));
        Check.equal("corner 2", 2, w.corner(1000, -1000));
        for (int n = 3; n <= 8; n++) {
            Check.equal("the same corner again", n, w.corner(0, 0));
        }
        Check.state("ninth corner", () -> w.corner(0, 0));
        Check.argument("ninth corner, wrong", () -> w.corner(0, 1001));
        Check.equal("corners that stay", 8, w.clear());
    }

    private static void textsAreTyped() {
        AreaWarnings w = new AreaWarnings();
        Check.argument("language low", () -> w.text(-1, 0));
        Check.argument("language high", () -> w.text(3, 0));
        Check.argument("value low", () -> w.text(0, -1));
        Check.argument("value high", () -> w.text(0, 256));
        for (int n = 1; n <= 30; n++) {
            Check.equal("a byte", n, w.text(1, n % 2 == 0 ? 0 : 255));
        }
        Check.state("byte 31", () -> w.text(1, 7));
        Check.argument("byte 31, wrong", () -> w.text(1, 256));
        Check.equal("another language", 1, w.text(2, 7));
        Check.equal("the first language", 1, w.text(0, 7));
        Check.equal("bytes that stay", 32, w.clear());
    }

    private static void clearing() {
        AreaWarnings w = new AreaWarnings();
        w.cell(0, 0, 1);
        Typing.near(w, 0, 0, "abc");
        w.text(2, 9);
        Check.equal("corners and bytes", 8, w.clear());
        Check.equal("nothing left", 0, w.clear());
        Check.unsupported("nothing to issue", () -> w.issue(1, 1, 1, 2, 1));
        Check.equal("corner anew", 1, w.corner(3, 3));
        Check.equal("byte anew", 1, w.text(0, 'z'));
        w.clear();
        Typing.near(w, 0, 0, "de");
        Check.equal("issue behind clear", 1, w.issue(1, 1, 1, 9, 1));
        Check.equal("issue types nothing", 0, w.clear());
        w.handset(0);
        w.camp(0, 0);
        w.minute();
        Check.same("the text behind clear", "1.1/0@1=de!", Typing.screen(w, 0));
    }

    private static void handsets() {
        AreaWarnings w = new AreaWarnings();
        Check.argument("threshold low", () -> w.handset(-1));
        Check.argument("threshold high", () -> w.handset(6));
        Check.equal("handset 0", 0, w.handset(0));
        Check.equal("handset 1", 1, w.handset(5));
        Check.equal("handset 2", 2, w.handset(3));
        Check.state("fourth handset", () -> w.handset(3));
        Check.argument("fourth handset, wrong", () -> w.handset(6));
        Check.equal("handsets", 3, w.total(4));
    }
}
