/** Warnings for areas: a centre, the cells that send its pages, and the handsets that gather them. */
public final class AreaWarnings {
    public static final int NONE = -1;

    private static final int MOST_CELLS = 8;
    private static final int MOST_CORNERS = 8;
    private static final int MOST_WARNINGS = 12;
    private static final int MOST_VERSIONS = 40;
    private static final int MOST_HANDSETS = 3;
    private static final int MOST_LIKED = 3;
    private static final int FARTHEST = 1000;
    private static final int WIDEST_RADIUS = 2000;
    private static final int GREATEST_ID = 1000;
    private static final int WORST_SEVERITY = 5;
    private static final int LONGEST_SPAN = 1000;
    private static final int MOST_MISSED_AT_ONCE = 1000;
    private static final int LANGUAGES = 3;
    private static final int CANCEL_LANGUAGE = 3;
    private static final int LONGEST_TEXT = 30;
    private static final int PAGE_BYTES = 10;
    private static final int MOST_PAGES_OF_TEXT = 3;
    private static final int MOST_PAGES_OF_CELL = MOST_WARNINGS * LANGUAGES * MOST_PAGES_OF_TEXT;
    private static final int FIRST_ALARM_TOTAL = 10;

    private int clock;
    private final Cell[] cells;
    private int cellCount;
    private final Warning[] warningsById;
    private int warningCount;
    private int versionCount;
    private final Handset[] handsets;
    private int handsetCount;
    private Message typed;

    public AreaWarnings() {
        clock = 0;
        cells = new Cell[MOST_CELLS];
        cellCount = 0;
        warningsById = new Warning[MOST_WARNINGS];
        warningCount = 0;
        versionCount = 0;
        handsets = new Handset[MOST_HANDSETS];
        handsetCount = 0;
        typed = new Message();
    }

    public int cell(int x, int y, int radius) throws IllegalArgumentException, IllegalStateException {
        if (!isCoordinate(x) || !isCoordinate(y) || radius < 1 || radius > WIDEST_RADIUS) {
            throw new IllegalArgumentException();
        }
        if (cellCount == MOST_CELLS) {
            throw new IllegalStateException();
        }
        Cell made = new Cell(cellCount, x, y, radius);
        cells[cellCount] = made;
        cellCount++;
        for (int w = 0; w < warningCount; w++) {
            if (warningsById[w].newest instanceof Spoken spoken) {
                spoken.measure(made);
            }
        }
        return made.index;
    }

    public int corner(int x, int y) throws IllegalArgumentException, IllegalStateException {
        if (!isCoordinate(x) || !isCoordinate(y)) {
            throw new IllegalArgumentException();
        }
        if (typed.area.count == MOST_CORNERS) {
            throw new IllegalStateException();
        }
        return typed.area.addCorner(x, y);
    }

    public int text(int language, int value) throws IllegalArgumentException, IllegalStateException {
        if (!isLanguage(language) || value < 0 || value > 255) {
            throw new IllegalArgumentException();
        }
        if (typed.texts.lengths[language] == LONGEST_TEXT) {
            throw new IllegalStateException();
        }
        return typed.texts.addByte(language, value);
    }

    public int clear() {
        int before = typed.area.count + typed.texts.byteCount();
        typed.area.dropCorners();
        typed.texts.dropBytes();
        return before;
    }

    public int issue(int id, int severity, int begin, int end, int span)
            throws IllegalArgumentException, UnsupportedOperationException, IllegalStateException {
        if (id < 1 || id > GREATEST_ID || !isSeverity(severity) || !isSpan(span)
                || begin <= clock || end <= begin) {
            throw new IllegalArgumentException();
        }
        if (!typed.canBeSpoken()) {
            throw new UnsupportedOperationException();
        }
        if (findWarning(id) != null || warningCount == MOST_WARNINGS || versionCount == MOST_VERSIONS) {
            throw new IllegalStateException();
        }
        Warning made = new Warning(id, warningCount);
        insertById(made);
        return speak(made, new Spoken(made, severity, begin, end, span, typed));
    }

    public int update(int id, int severity, int end, int span)
            throws IllegalArgumentException, UnsupportedOperationException, IllegalStateException {
        int begin = clock + 1;
        if (!isSeverity(severity) || !isSpan(span) || end <= begin) {
            throw new IllegalArgumentException();
        }
        if (!typed.canBeSpoken()) {
            throw new UnsupportedOperationException();
        }
        Warning live = findLive(id);
        if (live == null || versionCount == MOST_VERSIONS) {
            throw new IllegalStateException();
        }
        return speak(live, new Spoken(live, severity, begin, end, span, typed));
    }

    public int cancel(int id) throws IllegalStateException {
        Warning live = findLive(id);
        if (live == null || versionCount == MOST_VERSIONS) {
            throw new IllegalStateException();
        }
        live.newest = new Cancel(live, live.newest.severity, live.newest.end);
        versionCount++;
        return live.newest.number;
    }

    public int minute() {
        clock++;
        int pages = 0;
        for (int c = 0; c < cellCount; c++) {
            Cell cell = cells[c];
            if (cell.lineWhole) {
                cell.makeListAnew(warningsById, warningCount, clock);
            } else {
                cell.dropEnded(clock);
            }
            cell.sendPages(clock);
            pages += cell.pageCount;
        }
        for (int h = 0; h < handsetCount; h++) {
            Handset handset = handsets[h];
            if (isCell(handset.place)) {
                handset.listen(cells[handset.place], clock);
            }
        }
        return pages;
    }

    public boolean line(int c, boolean whole) throws IndexOutOfBoundsException {
        if (!isCell(c)) {
            throw new IndexOutOfBoundsException();
        }
        boolean before = cells[c].lineWhole;
        cells[c].lineWhole = whole;
        return before;
    }

    public int handset(int threshold) throws IllegalArgumentException, IllegalStateException {
        if (threshold < 0 || threshold > WORST_SEVERITY) {
            throw new IllegalArgumentException();
        }
        if (handsetCount == MOST_HANDSETS) {
            throw new IllegalStateException();
        }
        handsets[handsetCount] = new Handset(threshold);
        handsetCount++;
        return handsetCount - 1;
    }

    public int likes(int h, int language)
            throws IndexOutOfBoundsException, IllegalArgumentException, IllegalStateException {
        if (!isHandset(h)) {
            throw new IndexOutOfBoundsException();
        }
        if (!isLanguage(language)) {
            throw new IllegalArgumentException();
        }
        if (handsets[h].likedCount == MOST_LIKED) {
            throw new IllegalStateException();
        }
        return handsets[h].addLiked(language);
    }

    public int camp(int h, int c) throws IndexOutOfBoundsException {
        if (!isHandset(h) || (c != NONE && !isCell(c))) {
            throw new IndexOutOfBoundsException();
        }
        int before = handsets[h].place;
        handsets[h].place = c;
        return before;
    }

    public int miss(int h, int n) throws IndexOutOfBoundsException, IllegalArgumentException {
        if (!isHandset(h)) {
            throw new IndexOutOfBoundsException();
        }
        if (n < 0 || n > MOST_MISSED_AT_ONCE) {
            throw new IllegalArgumentException();
        }
        handsets[h].toMiss += n;
        return handsets[h].toMiss;
    }

    public boolean covers(int id, int c) throws IndexOutOfBoundsException, IllegalStateException {
        if (!isCell(c)) {
            throw new IndexOutOfBoundsException();
        }
        Warning warning = findWarning(id);
        if (warning != null && warning.newest instanceof Spoken spoken) {
            return spoken.covered[c];
        }
        throw new IllegalStateException();
    }

    public int version(int id) {
        Warning warning = findWarning(id);
        return warning == null ? 0 : warning.newest.number;
    }

    public int listed(int c, int k, int what) throws IndexOutOfBoundsException, IllegalArgumentException {
        if (!isCell(c) || k < 0 || k >= cells[c].listCount) {
            throw new IndexOutOfBoundsException();
        }
        Version found = cells[c].list[k];
        switch (what) {
            case 0: return found.warning.id;
            case 1: return found.number;
            case 2: return found.severity;
            case 3: return found.end;
            case 4: return found instanceof Spoken ? 1 : 0;
            default: throw new IllegalArgumentException();
        }
    }

    public int sent(int c, int k, int what) throws IndexOutOfBoundsException, IllegalArgumentException {
        if (!isCell(c) || k < 0 || k >= cells[c].pageCount) {
            throw new IndexOutOfBoundsException();
        }
        Cell cell = cells[c];
        switch (what) {
            case 0: return cell.pageVersions[k].warning.id;
            case 1: return cell.pageVersions[k].number;
            case 2: return cell.pageLanguages[k];
            case 3: return cell.pageNumbers[k];
            case 4: return cell.bytesOfPage(k);
            default: throw new IllegalArgumentException();
        }
    }

    public int shown(int h, int k, int what) throws IndexOutOfBoundsException, IllegalArgumentException {
        if (!isHandset(h) || k < 0 || k >= handsets[h].shownCount) {
            throw new IndexOutOfBoundsException();
        }
        Handset handset = handsets[h];
        switch (what) {
            case 0: return handset.shownVersions[k].warning.id;
            case 1: return handset.shownVersions[k].number;
            case 2: return handset.shownLanguages[k];
            case 3: return handset.shownMinutes[k];
            case 4: return handset.isCurrent(k, clock) ? 1 : 0;
            case 5: return handset.bytesOfShown(k);
            default: throw new IllegalArgumentException();
        }
    }

    public int shownByte(int h, int k, int i) throws IndexOutOfBoundsException {
        if (!isHandset(h) || k < 0 || k >= handsets[h].shownCount
                || i < 0 || i >= handsets[h].bytesOfShown(k)) {
            throw new IndexOutOfBoundsException();
        }
        Handset handset = handsets[h];
        return handset.shownVersions[k].texts.bytes[handset.shownLanguages[k]][i];
    }

    public int total(int what) {
        switch (what) {
            case 0: return clock;
            case 1: return cellCount;
            case 2: return warningCount;
            case 3: return versionCount;
            case 4: return handsetCount;
            default: break;
        }
        if (what >= FIRST_ALARM_TOTAL && what < FIRST_ALARM_TOTAL + handsetCount) {
            return handsets[what - FIRST_ALARM_TOTAL].alarms;
        }
        return NONE;
    }

    private static boolean isCoordinate(int value) {
        return value >= -FARTHEST && value <= FARTHEST;
    }

    private static boolean isLanguage(int value) {
        return value >= 0 && value < LANGUAGES;
    }

    private static boolean isSeverity(int value) {
        return value >= 1 && value <= WORST_SEVERITY;
    }

    private static boolean isSpan(int value) {
        return value >= 1 && value <= LONGEST_SPAN;
    }

    private boolean isCell(int c) {
        return c >= 0 && c < cellCount;
    }

    private boolean isHandset(int h) {
        return h >= 0 && h < handsetCount;
    }

    private Warning findWarning(int id) {
        for (int w = 0; w < warningCount; w++) {
            if (warningsById[w].id == id) {
                return warningsById[w];
            }
        }
        return null;
    }

    private Warning findLive(int id) {
        Warning found = findWarning(id);
        if (found == null || found.newest.end <= clock || found.newest instanceof Cancel) {
            return null;
        }
        return found;
    }

    private void insertById(Warning made) {
        int place = warningCount;
        while (place > 0 && warningsById[place - 1].id > made.id) {
            warningsById[place] = warningsById[place - 1];
            place--;
        }
        warningsById[place] = made;
        warningCount++;
    }

    /** The version takes the typed message as its own, so typing goes on with another one. */
    private int speak(Warning warning, Spoken made) {
        warning.newest = made;
        versionCount++;
        typed = new Message();
        int covered = 0;
        for (int c = 0; c < cellCount; c++) {
            if (made.measure(cells[c])) {
                covered++;
            }
        }
        return covered;
    }

    /** An area and texts as they are typed; a version that is made of them keeps them. */
    private static final class Message {
        final Area area;
        final Texts texts;

        Message() {
            area = new Area();
            texts = new Texts();
        }

        boolean canBeSpoken() {
            return texts.byteCount() > 0 && area.isSimple();
        }
    }

    /** A row of corners; all geometry is in whole numbers (long), so every edge is exact. */
    private static final class Area {
        final int[] xs;
        final int[] ys;
        int count;

        Area() {
            xs = new int[MOST_CORNERS];
            ys = new int[MOST_CORNERS];
            count = 0;
        }

        int addCorner(int x, int y) {
            xs[count] = x;
            ys[count] = y;
            count++;
            return count;
        }

        void dropCorners() {
            count = 0;
        }

        boolean isSimple() {
            if (count < 3) {
                return false;
            }
            for (int i = 0; i < count; i++) {
                for (int j = i + 1; j < count; j++) {
                    if (xs[i] == xs[j] && ys[i] == ys[j]) {
                        return false;
                    }
                }
            }
            // The sides' tests rely on sides that have a length, so they come behind all corners.
            for (int i = 0; i < count; i++) {
                for (int j = i + 1; j < count; j++) {
                    if (sidesClash(i, j)) {
                        return false;
                    }
                }
            }
            return true;
        }

        boolean reaches(int x, int y, int radius) {
            for (int i = 0; i < count; i++) {
                if (sideReaches(i, x, y, radius)) {
                    return true;
                }
            }
            return surrounds(x, y);
        }

        private int next(int i) {
            return i + 1 < count ? i + 1 : 0;
        }

        private boolean sidesClash(int i, int j) {
            if (next(i) == j) {
                return foldsBack(i, j, next(j));
            }
            if (next(j) == i) {
                return foldsBack(j, i, next(i));
            }
            return sidesMeet(i, j);
        }

        /** Sides that share a corner have more in common only when both leave it the same way. */
        private boolean foldsBack(int before, int shared, int behind) {
            long ax = xs[before] - xs[shared];
            long ay = ys[before] - ys[shared];
            long bx = xs[behind] - xs[shared];
            long by = ys[behind] - ys[shared];
            return ax * by == ay * bx && ax * bx + ay * by > 0;
        }

        private boolean sidesMeet(int i, int j) {
            int iEnd = next(i);
            int jEnd = next(j);
            return rangesMeet(xs[i], xs[iEnd], xs[j], xs[jEnd])
                && rangesMeet(ys[i], ys[iEnd], ys[j], ys[jEnd])
                && turn(i, xs[j], ys[j]) * turn(i, xs[jEnd], ys[jEnd]) <= 0
                && turn(j, xs[i], ys[i]) * turn(j, xs[iEnd], ys[iEnd]) <= 0;
        }

        private static boolean rangesMeet(int a, int b, int c, int d) {
            return Math.max(a, b) >= Math.min(c, d) && Math.max(c, d) >= Math.min(a, b);
        }

        /** Above 0 when the point lies to the left of the line of side i, 0 when on that line. */
        private long turn(int i, int x, int y) {
            int j = next(i);
            long alongX = xs[j] - xs[i];
            long alongY = ys[j] - ys[i];
            return alongX * (y - ys[i]) - alongY * (x - xs[i]);
        }

        private boolean sideReaches(int i, int x, int y, int radius) {
            int j = next(i);
            long reach = (long) radius * radius;
            long alongX = xs[j] - xs[i];
            long alongY = ys[j] - ys[i];
            long length = alongX * alongX + alongY * alongY;
            long foot = alongX * (x - xs[i]) + alongY * (y - ys[i]);
            if (foot <= 0) {
                return squareToCorner(i, x, y) <= reach;
            }
            if (foot >= length) {
                return squareToCorner(j, x, y) <= reach;
            }
            long aside = turn(i, x, y);
            return aside * aside <= reach * length;
        }

        private long squareToCorner(int i, int x, int y) {
            long dx = x - xs[i];
            long dy = y - ys[i];
            return dx * dx + dy * dy;
        }

        /** Whether a point on no side lies inside: a ray to its right meets an odd number of sides. */
        private boolean surrounds(int x, int y) {
            boolean inside = false;
            for (int i = 0; i < count; i++) {
                int j = next(i);
                boolean rises = ys[j] > ys[i];
                if ((ys[i] > y) != (ys[j] > y) && rises == (turn(i, x, y) > 0)) {
                    inside = !inside;
                }
            }
            return inside;
        }
    }

    private static final class Texts {
        final int[][] bytes;
        final int[] lengths;

        Texts() {
            bytes = new int[LANGUAGES][LONGEST_TEXT];
            lengths = new int[LANGUAGES];
        }

        int addByte(int language, int value) {
            bytes[language][lengths[language]] = value;
            lengths[language]++;
            return lengths[language];
        }

        void dropBytes() {
            for (int l = 0; l < LANGUAGES; l++) {
                lengths[l] = 0;
            }
        }

        int byteCount() {
            int sum = 0;
            for (int l = 0; l < LANGUAGES; l++) {
                sum += lengths[l];
            }
            return sum;
        }

        boolean offers(int language) {
            return lengths[language] > 0;
        }

        int pagesOf(int language) {
            return (lengths[language] + PAGE_BYTES - 1) / PAGE_BYTES;
        }

        int bytesOfPage(int language, int number) {
            return Math.min(PAGE_BYTES, lengths[language] - number * PAGE_BYTES);
        }
    }

    private static final class Warning {
        final int id;
        /** The place in the order of issue: unlike the place by id, it stays when others are issued. */
        final int index;
        Version newest;

        Warning(int id, int index) {
            this.id = id;
            this.index = index;
            newest = null;
        }
    }

    private abstract static class Version {
        final Warning warning;
        final int number;
        final int severity;
        final int end;

        Version(Warning warning, int severity, int end) {
            this.warning = warning;
            this.number = warning.newest == null ? 1 : warning.newest.number + 1;
            this.severity = severity;
            this.end = end;
        }
    }

    private static final class Spoken extends Version {
        final int begin;
        final int span;
        final Area area;
        final Texts texts;
        /** Neither area nor cell ever changes, so each cell is measured once. */
        final boolean[] covered;

        Spoken(Warning warning, int severity, int begin, int end, int span, Message message) {
            super(warning, severity, end);
            this.begin = begin;
            this.span = span;
            area = message.area;
            texts = message.texts;
            covered = new boolean[MOST_CELLS];
        }

        boolean measure(Cell cell) {
            covered[cell.index] = area.reaches(cell.x, cell.y, cell.radius);
            return covered[cell.index];
        }

        boolean isDue(int clock) {
            return clock >= begin && (clock - begin) % span == 0;
        }
    }

    private static final class Cancel extends Version {
        Cancel(Warning warning, int severity, int end) {
            super(warning, severity, end);
        }
    }

    private static final class Cell {
        final int index;
        final int x;
        final int y;
        final int radius;
        boolean lineWhole;
        Version[] list;
        int listCount;
        private Version[] spareList;
        final Version[] pageVersions;
        final int[] pageLanguages;
        final int[] pageNumbers;
        int pageCount;

        Cell(int index, int x, int y, int radius) {
            this.index = index;
            this.x = x;
            this.y = y;
            this.radius = radius;
            lineWhole = true;
            list = new Version[MOST_WARNINGS];
            listCount = 0;
            spareList = new Version[MOST_WARNINGS];
            pageVersions = new Version[MOST_PAGES_OF_CELL];
            pageLanguages = new int[MOST_PAGES_OF_CELL];
            pageNumbers = new int[MOST_PAGES_OF_CELL];
            pageCount = 0;
        }

        /** The list before is read until the new one is whole, so the two rows take turns. */
        void makeListAnew(Warning[] warningsById, int warningCount, int clock) {
            int count = 0;
            for (int w = 0; w < warningCount; w++) {
                Version newest = warningsById[w].newest;
                if (newest.end > clock && belongsHere(newest)) {
                    spareList[count] = newest;
                    count++;
                }
            }
            Version[] before = list;
            list = spareList;
            spareList = before;
            listCount = count;
        }

        private boolean belongsHere(Version version) {
            if (version instanceof Spoken spoken) {
                return spoken.covered[index];
            }
            return listsWarning(version.warning);
        }

        private boolean listsWarning(Warning warning) {
            for (int k = 0; k < listCount; k++) {
                if (list[k].warning == warning) {
                    return true;
                }
            }
            return false;
        }

        void dropEnded(int clock) {
            int count = 0;
            for (int k = 0; k < listCount; k++) {
                if (list[k].end > clock) {
                    list[count] = list[k];
                    count++;
                }
            }
            listCount = count;
        }

        /** The list goes by id already, so a walk for each severity gives the order of sending. */
        void sendPages(int clock) {
            pageCount = 0;
            for (int severity = WORST_SEVERITY; severity >= 1; severity--) {
                for (int k = 0; k < listCount; k++) {
                    if (list[k].severity == severity) {
                        sendVersion(list[k], clock);
                    }
                }
            }
        }

        private void sendVersion(Version version, int clock) {
            if (version instanceof Spoken spoken) {
                if (spoken.isDue(clock)) {
                    sendTexts(spoken);
                }
            } else {
                sendPage(version, CANCEL_LANGUAGE, 0);
            }
        }

        private void sendTexts(Spoken spoken) {
            for (int l = 0; l < LANGUAGES; l++) {
                int pages = spoken.texts.pagesOf(l);
                for (int p = 0; p < pages; p++) {
                    sendPage(spoken, l, p);
                }
            }
        }

        private void sendPage(Version version, int language, int number) {
            pageVersions[pageCount] = version;
            pageLanguages[pageCount] = language;
            pageNumbers[pageCount] = number;
            pageCount++;
        }

        int bytesOfPage(int k) {
            if (pageVersions[k] instanceof Spoken spoken) {
                return spoken.texts.bytesOfPage(pageLanguages[k], pageNumbers[k]);
            }
            return 0;
        }
    }

    private static final class Handset {
        final int threshold;
        private final int[] liked;
        int likedCount;
        int place;
        int toMiss;
        int alarms;
        /** By a warning's index: the newest version heard, which of its pages are held, if it was shown. */
        private final Version[] heard;
        private final int[] heldPages;
        private final boolean[] wasShown;
        final Spoken[] shownVersions;
        final int[] shownLanguages;
        final int[] shownMinutes;
        int shownCount;

        Handset(int threshold) {
            this.threshold = threshold;
            liked = new int[MOST_LIKED];
            likedCount = 0;
            place = NONE;
            toMiss = 0;
            alarms = 0;
            heard = new Version[MOST_WARNINGS];
            heldPages = new int[MOST_WARNINGS];
            wasShown = new boolean[MOST_WARNINGS];
            shownVersions = new Spoken[MOST_VERSIONS];
            shownLanguages = new int[MOST_VERSIONS];
            shownMinutes = new int[MOST_VERSIONS];
            shownCount = 0;
        }

        int addLiked(int language) {
            liked[likedCount] = language;
            likedCount++;
            return likedCount;
        }

        void listen(Cell cell, int clock) {
            for (int k = 0; k < cell.pageCount; k++) {
                if (toMiss > 0) {
                    toMiss--;
                } else {
                    hear(cell.pageVersions[k], cell.pageLanguages[k], cell.pageNumbers[k], clock);
                }
            }
        }

        private void hear(Version version, int language, int number, int clock) {
            int w = version.warning.index;
            if (heard[w] != null && heard[w].number > version.number) {
                return;
            }
            if (heard[w] != version) {
                heard[w] = version;
                heldPages[w] = 0;
                wasShown[w] = false;
            }
            if (version instanceof Spoken spoken) {
                heldPages[w] |= pageBits(language, 1) << number;
                if (!wasShown[w]) {
                    showIfWhole(spoken, clock);
                }
            }
        }

        /** Each language has bits of its own; these are those of its first pages. */
        private static int pageBits(int language, int pages) {
            return ((1 << pages) - 1) << (language * MOST_PAGES_OF_TEXT);
        }

        private void showIfWhole(Spoken spoken, int clock) {
            int w = spoken.warning.index;
            int language = choose(spoken.texts);
            int needed = pageBits(language, spoken.texts.pagesOf(language));
            if ((heldPages[w] & needed) != needed) {
                return;
            }
            wasShown[w] = true;
            shownVersions[shownCount] = spoken;
            shownLanguages[shownCount] = language;
            shownMinutes[shownCount] = clock;
            shownCount++;
            if (spoken.severity >= threshold) {
                alarms++;
            }
        }

        private int choose(Texts texts) {
            for (int n = 0; n < likedCount; n++) {
                if (texts.offers(liked[n])) {
                    return liked[n];
                }
            }
            int least = 0;
            while (least < LANGUAGES - 1 && !texts.offers(least)) {
                least++;
            }
            return least;
        }

        boolean isCurrent(int k, int clock) {
            Spoken version = shownVersions[k];
            return version.end > clock && heard[version.warning.index] == version;
        }

        int bytesOfShown(int k) {
            return shownVersions[k].texts.lengths[shownLanguages[k]];
        }
    }
}
