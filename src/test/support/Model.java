import java.math.BigInteger;
import java.util.ArrayList;
import java.util.HashSet;
import java.util.List;
import java.util.Set;
import java.util.TreeMap;

/**
 * The document told a second time, slowly and with the Java library: texts for pages, fractions for points,
 * and handsets that keep every page they ever heard. Its answers are compared with the program's.
 */
final class Model implements Caller {
    record Place(int x, int y) {
    }

    record Ver(int id, int number, int severity, int end, boolean spoken, List<Place> area,
            List<List<Integer>> texts, int begin, int span) {
        String name() {
            return id + "." + number;
        }
    }

    record Page(Ver ver, int language, int number, int bytes) {
    }

    record Seen(Ver ver, int language, int minute) {
    }

    static final class Station {
        int x;
        int y;
        int radius;
        boolean whole = true;
        TreeMap<Integer, Ver> list = new TreeMap<>();
        List<Page> pages = new ArrayList<>();
    }

    static final class Phone {
        int threshold;
        List<Integer> likes = new ArrayList<>();
        int cell = -1;
        int misses;
        int alarms;
        List<Page> heard = new ArrayList<>();
        List<Seen> seen = new ArrayList<>();
    }

    private int clock = 0;
    private final List<Station> cells = new ArrayList<>();
    private final TreeMap<Integer, List<Ver>> warnings = new TreeMap<>();
    private final List<Phone> phones = new ArrayList<>();
    private List<Place> area = new ArrayList<>();
    private List<List<Integer>> texts = emptyTexts();

    private static List<List<Integer>> emptyTexts() {
        List<List<Integer>> all = new ArrayList<>();
        for (int l = 0; l < 3; l++) {
            all.add(new ArrayList<>());
        }
        return all;
    }

    int clock() {
        return clock;
    }

    @Override
    public int call(String name, int... a) {
        switch (name) {
            case "cell": return cell(a[0], a[1], a[2]);
            case "corner": return corner(a[0], a[1]);
            case "text": return text(a[0], a[1]);
            case "clear": return clear();
            case "issue": return issue(a[0], a[1], a[2], a[3], a[4]);
            case "update": return update(a[0], a[1], a[2], a[3]);
            case "cancel": return cancel(a[0]);
            case "minute": return minute();
            case "line": return line(a[0], a[1] != 0);
            case "handset": return handset(a[0]);
            case "likes": return likes(a[0], a[1]);
            case "camp": return camp(a[0], a[1]);
            case "miss": return miss(a[0], a[1]);
            case "covers": return covers(a[0], a[1]);
            case "version": return newest(a[0]) == null ? 0 : newest(a[0]).number;
            case "listed": return listed(a[0], a[1], a[2]);
            case "sent": return sent(a[0], a[1], a[2]);
            case "shown": return shown(a[0], a[1], a[2]);
            case "shownByte": return shownByte(a[0], a[1], a[2]);
            case "total": return total(a[0]);
            default: throw new AssertionError("no call is named " + name);
        }
    }

    private static void in(int value, int low, int high) {
        if (value < low || value > high) {
            throw new IllegalArgumentException();
        }
    }

    private static void state(boolean good) {
        if (!good) {
            throw new IllegalStateException();
        }
    }

    private static <T> T at(List<T> row, int k) {
        if (k < 0 || k >= row.size()) {
            throw new IndexOutOfBoundsException();
        }
        return row.get(k);
    }

    private int cell(int x, int y, int radius) {
        in(x, -1000, 1000);
        in(y, -1000, 1000);
        in(radius, 1, 2000);
        state(cells.size() < 8);
        Station made = new Station();
        made.x = x;
        made.y = y;
        made.radius = radius;
        cells.add(made);
        return cells.size() - 1;
    }

    private int corner(int x, int y) {
        in(x, -1000, 1000);
        in(y, -1000, 1000);
        state(area.size() < 8);
        area.add(new Place(x, y));
        return area.size();
    }

    private int text(int language, int value) {
        in(language, 0, 2);
        in(value, 0, 255);
        state(texts.get(language).size() < 30);
        texts.get(language).add(value);
        return texts.get(language).size();
    }

    private int clear() {
        int all = area.size() + texts.get(0).size() + texts.get(1).size() + texts.get(2).size();
        area = new ArrayList<>();
        texts = emptyTexts();
        return all;
    }

    private int versions() {
        int sum = 0;
        for (List<Ver> one : warnings.values()) {
            sum += one.size();
        }
        return sum;
    }

    private Ver newest(int id) {
        List<Ver> all = warnings.get(id);
        return all == null ? null : all.get(all.size() - 1);
    }

    private boolean live(int id) {
        Ver v = newest(id);
        return v != null && v.spoken && v.end > clock;
    }

    private void needTyped() {
        boolean offered = texts.stream().anyMatch(t -> !t.isEmpty());
        if (!simple(area) || !offered) {
            throw new UnsupportedOperationException();
        }
    }

    private int issue(int id, int severity, int begin, int end, int span) {
        in(id, 1, 1000);
        in(severity, 1, 5);
        in(span, 1, 1000);
        if (begin <= clock || end <= begin) {
            throw new IllegalArgumentException();
        }
        needTyped();
        state(!warnings.containsKey(id) && warnings.size() < 12 && versions() < 40);
        warnings.put(id, new ArrayList<>());
        return add(new Ver(id, 1, severity, end, true, area, texts, begin, span));
    }

    private int update(int id, int severity, int end, int span) {
        in(severity, 1, 5);
        in(span, 1, 1000);
        if (end <= clock + 1) {
            throw new IllegalArgumentException();
        }
        needTyped();
        state(live(id) && versions() < 40);
        return add(new Ver(id, newest(id).number + 1, severity, end, true, area, texts, clock + 1, span));
    }

    private int add(Ver v) {
        warnings.get(v.id).add(v);
        clear();
        int count = 0;
        for (Station s : cells) {
            count += covers(v.area, s) ? 1 : 0;
        }
        return count;
    }

    private int cancel(int id) {
        state(live(id) && versions() < 40);
        Ver v = newest(id);
        warnings.get(id).add(new Ver(id, v.number + 1, v.severity, v.end, false, null, null, 0, 0));
        return v.number + 1;
    }

    private int minute() {
        clock++;
        int count = 0;
        for (Station s : cells) {
            relist(s);
            s.pages = pagesNow(s);
            count += s.pages.size();
        }
        for (Phone p : phones) {
            if (p.cell >= 0) {
                for (Page page : cells.get(p.cell).pages) {
                    if (p.misses > 0) {
                        p.misses--;
                    } else {
                        hear(p, page);
                    }
                }
            }
        }
        return count;
    }

    private void relist(Station s) {
        if (!s.whole) {
            s.list.values().removeIf(v -> v.end <= clock);
            return;
        }
        TreeMap<Integer, Ver> made = new TreeMap<>();
        for (int id : warnings.keySet()) {
            Ver v = newest(id);
            boolean belongs = v.spoken ? covers(v.area, s) : s.list.containsKey(id);
            if (v.end > clock && belongs) {
                made.put(id, v);
            }
        }
        s.list = made;
    }

    private List<Page> pagesNow(Station s) {
        List<Ver> order = new ArrayList<>(s.list.values());
        order.sort((a, b) -> a.severity != b.severity ? b.severity - a.severity : a.id - b.id);
        List<Page> pages = new ArrayList<>();
        for (Ver v : order) {
            if (!v.spoken) {
                pages.add(new Page(v, 3, 0, 0));
                continue;
            }
            boolean due = false;
            for (long m = v.begin; m <= clock; m += v.span) {
                due |= m == clock;
            }
            for (int l = 0; due && l < 3; l++) {
                int bytes = v.texts.get(l).size();
                for (int from = 0; from < bytes; from += 10) {
                    pages.add(new Page(v, l, from / 10, Math.min(10, bytes - from)));
                }
            }
        }
        return pages;
    }

    private void hear(Phone p, Page page) {
        boolean old = p.heard.stream().anyMatch(h -> h.ver.id == page.ver.id && h.ver.number > page.ver.number);
        p.heard.add(page);
        if (old || !page.ver.spoken || p.seen.stream().anyMatch(s -> s.ver == page.ver)) {
            return;
        }
        int choice = -1;
        List<Integer> wishes = new ArrayList<>(p.likes);
        wishes.addAll(List.of(0, 1, 2));
        for (int l : wishes) {
            if (choice < 0 && !page.ver.texts.get(l).isEmpty()) {
                choice = l;
            }
        }
        Set<Integer> held = new HashSet<>();
        int bytes = 0;
        for (Page h : p.heard) {
            if (h.ver == page.ver && h.language == choice && held.add(h.number)) {
                bytes += h.bytes;
            }
        }
        if (bytes == page.ver.texts.get(choice).size()) {
            p.seen.add(new Seen(page.ver, choice, clock));
            p.alarms += page.ver.severity >= p.threshold ? 1 : 0;
        }
    }

    private int line(int c, boolean whole) {
        Station s = at(cells, c);
        boolean before = s.whole;
        s.whole = whole;
        return before ? 1 : 0;
    }

    private int handset(int threshold) {
        in(threshold, 0, 5);
        state(phones.size() < 3);
        Phone made = new Phone();
        made.threshold = threshold;
        phones.add(made);
        return phones.size() - 1;
    }

    private int likes(int h, int language) {
        Phone p = at(phones, h);
        in(language, 0, 2);
        state(p.likes.size() < 3);
        p.likes.add(language);
        return p.likes.size();
    }

    private int camp(int h, int c) {
        Phone p = at(phones, h);
        if (c != -1) {
            at(cells, c);
        }
        int before = p.cell;
        p.cell = c;
        return before;
    }

    private int miss(int h, int n) {
        Phone p = at(phones, h);
        in(n, 0, 1000);
        p.misses += n;
        return p.misses;
    }

    private int covers(int id, int c) {
        Station s = at(cells, c);
        state(newest(id) != null && newest(id).spoken);
        return covers(newest(id).area, s) ? 1 : 0;
    }

    private int listed(int c, int k, int what) {
        Ver v = at(new ArrayList<>(at(cells, c).list.values()), k);
        in(what, 0, 4);
        return new int[] {v.id, v.number, v.severity, v.end, v.spoken ? 1 : 0}[what];
    }

    private int sent(int c, int k, int what) {
        Page p = at(at(cells, c).pages, k);
        in(what, 0, 4);
        return new int[] {p.ver.id, p.ver.number, p.language, p.number, p.bytes}[what];
    }

    private int shown(int h, int k, int what) {
        Phone p = at(phones, h);
        Seen s = at(p.seen, k);
        in(what, 0, 5);
        boolean newer = p.heard.stream().anyMatch(o -> o.ver.id == s.ver.id && o.ver.number > s.ver.number);
        int current = s.ver.end > clock && !newer ? 1 : 0;
        return new int[] {s.ver.id, s.ver.number, s.language, s.minute, current,
            s.ver.texts.get(s.language).size()}[what];
    }

    private int shownByte(int h, int k, int i) {
        Seen s = at(at(phones, h).seen, k);
        return at(s.ver.texts.get(s.language), i);
    }

    private int total(int what) {
        if (what >= 10 && what - 10 < phones.size()) {
            return phones.get(what - 10).alarms;
        }
        int[] counts = {clock, cells.size(), warnings.size(), versions(), phones.size()};
        return what >= 0 && what < counts.length ? counts[what] : -1;
    }

    private static boolean simple(List<Place> area) {
        int n = area.size();
        if (n < 3 || new HashSet<>(area).size() < n) {
            return false;
        }
        for (int i = 0; i < n; i++) {
            for (int j = 0; j < n; j++) {
                if (i != j && clash(area.get(i), area.get((i + 1) % n), area.get(j), area.get((j + 1) % n))) {
                    return false;
                }
            }
        }
        return true;
    }

    /** Whether sides ab and cd have a point in common that is no corner of both. */
    private static boolean clash(Place a, Place b, Place c, Place d) {
        long bx = b.x - a.x;
        long by = b.y - a.y;
        long dx = d.x - c.x;
        long dy = d.y - c.y;
        long det = bx * dy - by * dx;
        if (det != 0) {
            // a + t(b - a) = c + u(d - c), with t = tn / det and u = un / det
            long tn = (c.x - a.x) * dy - (c.y - a.y) * dx;
            long un = (c.x - a.x) * by - (c.y - a.y) * bx;
            if (det < 0) {
                tn = -tn;
                un = -un;
                det = -det;
            }
            boolean meet = tn >= 0 && tn <= det && un >= 0 && un <= det;
            boolean corner = (tn == 0 || tn == det) && (un == 0 || un == det);
            return meet && !corner;
        }
        if (bx * (c.y - a.y) - by * (c.x - a.x) != 0) {
            return false;
        }
        // on one line: where c and d lie along ab, from 0 to its length squared
        long length = bx * bx + by * by;
        long tc = (c.x - a.x) * bx + (c.y - a.y) * by;
        long td = (d.x - a.x) * bx + (d.y - a.y) * by;
        long from = Math.max(0, Math.min(tc, td));
        long to = Math.min(length, Math.max(tc, td));
        return from < to;
    }

    private static boolean covers(List<Place> area, Station s) {
        int n = area.size();
        for (int i = 0; i < n; i++) {
            if (sideNear(area.get(i), area.get((i + 1) % n), s)) {
                return true;
            }
        }
        return winding(area, s.x, s.y) != 0;
    }

    /** The nearest point of the side is a + t(b - a) with t = tn / length between 0 and 1. */
    private static boolean sideNear(Place a, Place b, Station s) {
        long bx = b.x - a.x;
        long by = b.y - a.y;
        long length = bx * bx + by * by;
        long tn = Math.max(0, Math.min(length, bx * (s.x - a.x) + by * (s.y - a.y)));
        BigInteger offX = BigInteger.valueOf((s.x - a.x) * length - tn * bx);
        BigInteger offY = BigInteger.valueOf((s.y - a.y) * length - tn * by);
        BigInteger reach = BigInteger.valueOf(s.radius * length);
        return offX.multiply(offX).add(offY.multiply(offY)).compareTo(reach.multiply(reach)) <= 0;
    }

    /** How often the sides go round the point, by the quarter turns of their ends. */
    private static int winding(List<Place> area, int x, int y) {
        int quarters = 0;
        for (int i = 0; i < area.size(); i++) {
            Place a = area.get(i);
            Place b = area.get((i + 1) % area.size());
            int step = (quarter(b.x - x, b.y - y) - quarter(a.x - x, a.y - y) + 4) % 4;
            if (step == 1) {
                quarters++;
            } else if (step == 3) {
                quarters--;
            } else if (step == 2) {
                long turn = (long) (a.x - x) * (b.y - y) - (long) (a.y - y) * (b.x - x);
                quarters += turn > 0 ? 2 : -2;
            }
        }
        return quarters / 4;
    }

    private static int quarter(int x, int y) {
        if (x > 0 && y >= 0) {
            return 0;
        }
        if (x <= 0 && y > 0) {
            return 1;
        }
        return x < 0 ? 2 : 3;
    }
}
