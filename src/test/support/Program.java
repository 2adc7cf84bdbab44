/** The program; it is asked for no more than the 512 calls of which the document promises anything. */
final class Program implements Caller {
    static final int MOST_CALLS = 512;

    private final AreaWarnings w;
    private int calls = 0;

    Program() {
        this(new AreaWarnings());
    }

    /** For an object that was called elsewhere too: those calls are not counted here. */
    Program(AreaWarnings w) {
        this.w = w;
    }

    @Override
    public int call(String name, int... a) {
        calls++;
        if (calls > MOST_CALLS) {
            throw new AssertionError("a test makes more than " + MOST_CALLS + " calls");
        }
        switch (name) {
            case "cell": return w.cell(a[0], a[1], a[2]);
            case "corner": return w.corner(a[0], a[1]);
            case "text": return w.text(a[0], a[1]);
            case "clear": return w.clear();
            case "issue": return w.issue(a[0], a[1], a[2], a[3], a[4]);
            case "update": return w.update(a[0], a[1], a[2], a[3]);
            case "cancel": return w.cancel(a[0]);
            case "minute": return w.minute();
            case "line": return w.line(a[0], a[1] != 0) ? 1 : 0;
            case "handset": return w.handset(a[0]);
            case "likes": return w.likes(a[0], a[1]);
            case "camp": return w.camp(a[0], a[1]);
            case "miss": return w.miss(a[0], a[1]);
            case "covers": return w.covers(a[0], a[1]) ? 1 : 0;
            case "version": return w.version(a[0]);
            case "listed": return w.listed(a[0], a[1], a[2]);
            case "sent": return w.sent(a[0], a[1], a[2]);
            case "shown": return w.shown(a[0], a[1], a[2]);
            case "shownByte": return w.shownByte(a[0], a[1], a[2]);
            case "total": return w.total(a[0]);
            default: throw new AssertionError("no call is named " + name);
        }
    }
}
