import java.util.ArrayList;
import java.util.List;

/** "Terms": every sentence in its order, and no words of it without a story (see Telling). */
public final class TermsTest {
    private static final Telling TERMS = new Telling("Terms");
    private static final String TYPED = "area 0 0 9 0 0 9";
    /** A cell, and a handset that camps there. */
    private static final List<String> CAMPED = List.of("cell 0 0 1", "handset 3", "camp 0 0");

    public static void main(String[] args) {
        clock();
        cells();
        area();
        simple();
        covers();
        texts();
        pagesOfTexts();
        warnings();
        versions();
        mostWarnings();
        live();
        lineListAndPages();
        theClockInAMinute();
        listsMadeAnew();
        listsOfCutLines();
        sends();
        handsets();
        hears();
        keepsTheNewest();
        holdsAndShows();
        choosesAndAlarms();
        throwing();
        TERMS.finish();
        Check.finish();
    }

    private static void story(String words, List<String> first, String... more) {
        List<String> all = new ArrayList<>(first);
        all.addAll(List.of(more));
        TERMS.story(words, all.toArray(new String[0]));
    }

    private static void clock() {
        TERMS.sentence("THE CLOCK shows minutes, 0 at first.");
        TERMS.story("THE CLOCK shows minutes", "minute", "total 0 = 1", "6 x minute", "total 0 = 7", "minute",
            "total 0 = 8");
        TERMS.story("0 at first.", "total 0 = 0");
    }

    private static void cells() {
        TERMS.sentence("CELLS, up to 8, are numbered 0, 1, .. as they are made; each has a centre, whose coordinates "
            + "are -1000 .. 1000, and a radius, 1 .. 2000.");
        TERMS.story("CELLS, up to 8, are numbered 0, 1, .. as they are made;",
            "cell 0 0 1 = 0", "cell 0 0 1 = 1", "cell 9 9 9 = 2", "cell 0 0 1 = 3", "minute", "cell 0 0 1 = 4",
            "cell 0 0 1 = 5", "cell 0 0 1 = 6", "cell 0 0 1 = 7", "cell 0 0 1 ! state", "total 1 = 8");
        TERMS.story("each has a centre, whose coordinates are -1000 .. 1000,",
            "cell -1001 0 1 ! argument", "cell 1001 0 1 ! argument", "cell 0 -1001 1 ! argument",
            "cell 0 1001 1 ! argument", "cell -1000 1000 1 = 0", "cell 1000 -1000 1 = 1", "near -990 990", "text 0 1",
            "issue 1 1 1 9 1 = 1", "covers 1 0 = yes", "covers 1 1 = no");
        TERMS.story("and a radius, 1 .. 2000.",
            "cell 0 0 0 ! argument", "cell 0 0 2001 ! argument", "cell 1000 0 1 = 0", "cell 1000 0 2000 = 1",
            "area -1000 0 -1000 9 -1000 18 -999 9", "text 0 1", "issue 1 1 1 9 1 = 1", "covers 1 0 = no",
            "covers 1 1 = yes");
    }

    private static void area() {
        TERMS.sentence("THE AREA that is typed is a row of up to 8 CORNERS, with coordinates -1000 .. 1000; its SIDES "
            + "lead from each corner to the next one, and from the last to the first.");
        TERMS.story("THE AREA that is typed is a row of up to 8 CORNERS, | as many",
            "corner 0 0 = 1", "corner 9 -9 = 2", "corner 18 0 = 3", "corner 27 9 = 4", "corner 18 18 = 5",
            "corner 9 27 = 6", "corner 0 18 = 7", "corner -9 9 = 8", "corner -9 5 ! state", "text 0 1",
            "issue 1 1 1 9 1 = 0");
        TERMS.story("THE AREA that is typed is a row | in the order in which they are typed", "text 0 1",
            "area 0 0 9 9 9 0 0 9", "issue 1 1 1 9 1 ! unsupported", "clear = 5", "text 0 1", "area 0 0 9 0 9 9 0 9",
            "issue 1 1 1 9 1 = 0");
        TERMS.story("with coordinates -1000 .. 1000;",
            "corner -1001 0 ! argument", "corner 1001 0 ! argument", "corner 0 -1001 ! argument",
            "corner 0 1001 ! argument", "corner -1000 -1000 = 1", "corner 1000 -1000 = 2", "corner 1000 1000 = 3",
            "text 0 1", "issue 1 1 1 9 1 = 0");
        TERMS.story("its SIDES lead from each corner to the next one,",
            "cell 50 -5 5", "cell 105 50 5", "cell 50 105 5", "cell 106 50 5", "area 0 0 100 0 100 100 0 100", "text 0 1",
            "issue 1 1 1 9 1 = 3", "covers 1 3 = no");
        TERMS.story("and from the last to the first. | what they reach",
            "cell -5 50 5", "cell -6 50 5", "area 0 0 100 0 100 100 0 100", "text 0 1", "issue 1 1 1 9 1 = 1",
            "covers 1 0 = yes");
        TERMS.story("and from the last to the first. | what they cross",
            "area 0 0 10 0 10 10 20 5", "text 0 1", "issue 1 1 1 9 1 ! unsupported");
    }

    private static void simple() {
        TERMS.sentence("It is SIMPLE when it has 3 corners or more, all different, and two sides have no point in "
            + "common, but, if they have a corner in common, that one alone.");
        TERMS.story("It is SIMPLE when it has 3 corners or more,",
            "text 0 1", "issue 1 1 1 9 1 ! unsupported", "corner 0 0", "issue 1 1 1 9 1 ! unsupported", "corner 9 0",
            "issue 1 1 1 9 1 ! unsupported", "corner 0 9", "issue 1 1 1 9 1 = 0");
        isNotSimple("all different, | neighbours", "0 0 0 0 9 0 0 9");
        isNotSimple("all different, | the last and the first", "0 0 9 0 0 9 0 0");
        isNotSimple("all different, | far from each other", "0 0 9 0 5 5 0 9 -9 9 5 5");
        isSimple("all different, | in one coordinate", "0 0 9 0 9 9 0 9");
        isNotSimple("and two sides have no point in common, | they cross", "0 0 9 9 9 0 0 9");
        isNotSimple("and two sides have no point in common, | a corner on a side", "0 0 20 0 20 20 10 0 0 20");
        isNotSimple("and two sides have no point in common, | the first corner on a side", "10 0 0 20 0 0 20 0 20 20");
        isNotSimple("and two sides have no point in common, | on one line", "0 0 20 0 20 5 15 0 5 0 0 5");
        isSimple("and two sides have no point in common, | a corner close to a side", "0 0 20 0 20 20 10 1 0 20");
        isSimple("and two sides have no point in common, | apart on one line", "0 0 9 0 9 5 12 5 12 0 20 0 20 9 0 9");
        isNotSimple("but, if they have a corner in common, that one alone. | level", "0 0 20 0 10 0 10 10");
        isNotSimple("but, if they have a corner in common, that one alone. | upright", "0 0 0 20 0 10 10 10");
        isNotSimple("but, if they have a corner in common, that one alone. | all on one line", "0 0 10 0 20 0");
        isSimple("but, if they have a corner in common, that one alone. | straight on", "0 0 10 0 20 0 10 10");
    }

    private static void isSimple(String words, String corners) {
        TERMS.story(words, "area " + corners, "text 0 1", "issue 1 1 1 9 1 = 0", "area " + corners, "text 0 1",
            "update 1 1 9 1 = 0");
    }

    private static void isNotSimple(String words, String corners) {
        TERMS.story(words, TYPED, "text 0 1", "issue 2 1 1 9 1 = 0", "area " + corners, "text 0 1",
            "issue 1 1 1 9 1 ! unsupported", "update 2 1 9 1 ! unsupported");
    }

    private static void covers() {
        TERMS.sentence("It COVERS a cell when some point that lies in it, or on a side, is not farther from the cell's "
            + "centre than its radius.");
        reaches("It COVERS a cell when some point that lies in it, | far from all sides", "500 250 1", "yes");
        reaches("It COVERS a cell when some point that lies in it, | at the height of a corner", "700 500 1", "yes");
        reaches("It COVERS a cell when some point that lies in it, | left of a bay", "100 700 1", "yes");
        reaches("It COVERS a cell when some point that lies in it, | right of a bay", "900 700 1", "yes");
        reaches("It COVERS a cell when some point that lies in it, | in a bay", "500 700 99", "no");
        reaches("It COVERS a cell when some point that lies in it, | left of it", "-500 500 99", "no");
        reaches("It COVERS a cell when some point that lies in it, | above it", "500 1000 99", "no");
        reaches("It COVERS a cell when some point that lies in it, | below it", "500 -500 99", "no");
        reaches("It COVERS a cell when some point that lies in it, | it lies in the cell", "-100 0 2000", "yes");
        reaches("or on a side, | the centre", "0 500 1", "yes");
        reaches("or on a side, | a corner", "1000 1000 1", "yes");
        reaches("is not farther from the cell's centre than its radius. | a side at the radius", "-50 300 50", "yes");
        reaches("is not farther from the cell's centre than its radius. | a side beyond it", "-51 300 50", "no");
        reaches("is not farther from the cell's centre than its radius. | a corner at the radius", "-30 -40 50", "yes");
        reaches("is not farther from the cell's centre than its radius. | a corner beyond it", "-31 -40 50", "no");
        reaches("is not farther from the cell's centre than its radius. | a slope within it", "500 900 283", "yes");
        reaches("is not farther from the cell's centre than its radius. | a slope beyond it", "500 900 282", "no");
    }

    /** A square of side 1000 with a bay, whose point is its middle, from above. */
    private static void reaches(String words, String cell, String due) {
        TERMS.story(words, "cell " + cell, "area 0 0 1000 0 1000 1000 500 500 0 1000", "text 0 1",
            "issue 1 1 1 9 1 = " + due, "covers 1 0 = " + due, "minute = " + due);
    }

    private static void texts() {
        TERMS.sentence("THE TEXTS that are typed are in the LANGUAGES 0, 1, 2, each of up to 30 bytes; a language is "
            + "OFFERED when its text is not empty.");
        TERMS.story("THE TEXTS that are typed are in the LANGUAGES 0, 1, 2,",
            "text -1 7 ! argument", "text 3 7 ! argument", "text 0 7 = 1", "text 1 7 = 1", "text 2 7 = 1",
            "text 1 7 = 2", "clear = 4");
        TERMS.story("each of up to 30 bytes;",
            "bytes 0 29", "text 0 7 = 30", "text 0 7 ! state", "bytes 1 30", "text 1 7 ! state", "bytes 2 30",
            "text 2 7 ! state", "clear = 90");
        TERMS.story("a language is OFFERED when its text is not empty. | one of them",
            "cell 0 0 1", TYPED, "issue 1 1 1 9 1 ! unsupported", "text 1 0 = 1", "issue 1 1 1 9 1 = 1", "minute = 1",
            "pages 0 = 1.1/1.0:1");
        TERMS.story("a language is OFFERED when its text is not empty. | two of them",
            "cell 0 0 1", TYPED, "text 2 0 = 1", "text 0 0 = 1", "issue 1 1 1 9 1 = 1", "minute = 2",
            "pages 0 = 1.1/0.0:1 1.1/2.0:1");
    }

    private static void pagesOfTexts() {
        TERMS.sentence("PAGES of a text have 10 bytes each, the last one 1 to 10; they are numbered from 0.");
        pages("PAGES of a text have 10 bytes each,", 30, "1.1/1.0:10 1.1/1.1:10 1.1/1.2:10");
        pages("the last one 1 to 10; | 1", 1, "1.1/1.0:1");
        pages("the last one 1 to 10; | 9", 9, "1.1/1.0:9");
        pages("the last one 1 to 10; | 10", 10, "1.1/1.0:10");
        pages("the last one 1 to 10; | 10 and 1", 11, "1.1/1.0:10 1.1/1.1:1");
        pages("the last one 1 to 10; | 20", 20, "1.1/1.0:10 1.1/1.1:10");
        pages("they are numbered from 0.", 21, "1.1/1.0:10 1.1/1.1:10 1.1/1.2:1");
    }

    private static void pages(String words, int bytes, String due) {
        TERMS.story(words, "cell 0 0 1", TYPED, "bytes 1 " + bytes, "issue 1 1 1 9 1",
            "minute = " + due.split(" ").length, "pages 0 = " + due);
    }

    private static void warnings() {
        TERMS.sentence("A WARNING has an id, 1 .. 1000, and VERSIONS, numbered 1, 2, ..");
        TERMS.story("A WARNING has an id, 1 .. 1000,",
            TYPED, "text 0 1", "issue 0 1 1 9 1 ! argument", "issue 1001 1 1 9 1 ! argument", "issue 1 1 1 9 1 = 0",
            TYPED, "text 0 1", "issue 1000 1 1 9 1 = 0", "version 1 = 1", "version 1000 = 1", "version 2 = 0");
        TERMS.story("and VERSIONS, numbered 1, 2, ..",
            "version 4 = 0", TYPED, "text 0 1", "issue 4 1 1 9 1", "version 4 = 1", TYPED, "text 0 1", "update 4 1 9 1",
            "version 4 = 2", TYPED, "text 0 1", "issue 5 1 1 9 1", "version 5 = 1", "cancel 4 = 3", "version 4 = 3",
            "version 5 = 1");
    }

    private static void versions() {
        TERMS.sentence("Each version has a severity, 1 .. 5, an END (a minute), and is either SPOKEN, with an area, "
            + "texts, a BEGINNING (a minute), and a SPAN (1 .. 1000 minutes), or a CANCEL, which has the severity and "
            + "the end of the version before.");
        TERMS.story("Each version has a severity, 1 .. 5,",
            "cell 0 0 1", TYPED, "text 0 1", "issue 1 0 1 9 1 ! argument", "issue 1 6 1 9 1 ! argument",
            "issue 1 5 1 9 1", TYPED, "text 0 1", "minute", "listed 0 0 2 = 5", "update 1 0 9 1 ! argument",
            "update 1 6 9 1 ! argument", "update 1 1 9 1", "minute", "listed 0 0 2 = 1");
        TERMS.story("an END (a minute),",
            "cell 0 0 1", TYPED, "text 0 1", "issue 1 1 1 3 1", TYPED, "text 0 1", "issue 2 1 1 MAX 1", "minute = 2",
            "listed 0 0 3 = 3", "listed 0 1 3 = MAX", "minute = 2", "minute = 1", "list 0 = 2.1");
        TERMS.story("and is either SPOKEN, with an area, texts, a BEGINNING (a minute),",
            "cell 0 0 1", "cell 100 0 1", TYPED, "bytes 0 2", "issue 1 1 3 9 1 = 1", "near 100 0", "bytes 1 1",
            "issue 2 1 2 9 1 = 1", "minute = 0", "listed 0 0 4 = 1", "list 1 = 2.1", "minute = 1",
            "pages 1 = 2.1/1.0:1", "minute = 2", "pages 0 = 1.1/0.0:2");
        TERMS.story("and a SPAN (1 .. 1000 minutes),",
            "cell 0 0 1", TYPED, "text 0 1", "issue 1 1 1 9 0 ! argument", "issue 1 1 1 9 1001 ! argument",
            "issue 1 1 1 9 1000", TYPED, "text 0 1", "minute = 1", "minute = 0", "update 1 1 9 0 ! argument",
            "update 1 1 9 1001 ! argument", "update 1 1 9 1", "minute = 1", "minute = 1");
        TERMS.story("or a CANCEL, which has the severity and the end of the version before.",
            "cell 0 0 1", TYPED, "text 0 1", "issue 1 2 1 50 1", "minute", TYPED, "text 0 1", "update 1 4 60 1", "minute",
            "cancel 1", "minute = 1", "listed 0 0 1 = 3", "listed 0 0 2 = 4", "listed 0 0 3 = 60", "listed 0 0 4 = 0");
    }

    private static void mostWarnings() {
        TERMS.sentence("At most 12 warnings, and 40 versions of all together, are ever made; an id is used once.");
        List<String> rows = new ArrayList<>();
        for (int id = 1; id <= 12; id++) {
            rows.addAll(List.of(TYPED, "text 0 1", "issue " + id + " 1 1 3 1 = 0"));
        }
        story("At most 12 warnings,", rows, "total 2 = 12", TYPED, "text 0 1", "issue 13 1 1 3 1 ! state", "cancel 1",
            "3 x minute", "issue 13 1 9 19 1 ! state", "total 2 = 12");
        for (int n = 13; n <= 39; n++) {
            rows.addAll(List.of(TYPED, "text 0 1", "update 7 1 3 1 = 0"));
        }
        story("and 40 versions of all together, are ever made; | of 12 warnings", rows, "version 7 = 28",
            "cancel 7 = 29", "total 3 = 40", "cancel 8 ! state", TYPED, "text 0 1", "update 8 1 3 1 ! state",
            "total 3 = 40", "version 8 = 1");
        List<String> one = new ArrayList<>(List.of(TYPED, "text 0 1", "issue 1 1 1 9 1"));
        for (int n = 2; n <= 40; n++) {
            one.addAll(List.of(TYPED, "text 0 1", "update 1 1 9 1 = 0"));
        }
        story("and 40 versions of all together, are ever made; | of one warning", one, "version 1 = 40",
            "cancel 1 ! state", TYPED, "text 0 1", "update 1 1 9 1 ! state", "issue 2 1 1 9 1 ! state", "total 2 = 1");
        TERMS.story("an id is used once.",
            TYPED, "text 0 1", "issue 3 1 1 2 1", TYPED, "text 0 1", "issue 3 1 1 2 1 ! state", "cancel 3",
            "issue 3 1 1 2 1 ! state", "2 x minute", "issue 3 1 5 6 1 ! state", "issue 4 1 5 6 1 = 0");
    }

    private static void live() {
        TERMS.sentence("A warning is LIVE when it has been issued, the end of its NEWEST version (the one with the "
            + "greatest number) is greater than the clock, and that is no cancel.");
        TERMS.story("A warning is LIVE when it has been issued,",
            "cancel 1 ! state", TYPED, "text 0 1", "update 1 1 9 1 ! state", "issue 1 1 5 9 1", TYPED, "text 0 1",
            "update 2 1 9 1 ! state", "update 1 1 9 1 = 0", "cancel 1 = 3");
        TERMS.story("the end of its NEWEST version (the one with the greatest number) is greater than the clock, | 1 more",
            TYPED, "text 0 1", "issue 1 1 1 3 1", "2 x minute", "cancel 1 = 2");
        TERMS.story("the end of its NEWEST version (the one with the greatest number) is greater than the clock, | equal",
            TYPED, "text 0 1", "issue 1 1 1 3 1", TYPED, "text 0 1", "3 x minute", "cancel 1 ! state",
            "update 1 1 9 1 ! state", "version 1 = 1");
        TERMS.story("the end of its NEWEST version (the one with the greatest number) | not of an older one, which is "
            + "later", TYPED, "text 0 1", "issue 1 1 1 30 1", TYPED, "text 0 1", "update 1 1 3 1", "3 x minute",
            "cancel 1 ! state");
        TERMS.story("the end of its NEWEST version (the one with the greatest number) | not of an older one, which is "
            + "earlier", TYPED, "text 0 1", "issue 1 1 1 3 1", TYPED, "text 0 1", "update 1 1 30 1", "3 x minute",
            "cancel 1 = 3");
        TERMS.story("and that is no cancel.",
            TYPED, "text 0 1", "issue 1 1 1 30 1", "cancel 1 = 2", "cancel 1 ! state", TYPED, "text 0 1",
            "update 1 1 30 1 ! state", "minute", "cancel 1 ! state", "version 1 = 2");
    }

    private static void lineListAndPages() {
        TERMS.sentence("Each cell has a LINE to the centre, which is whole at first, or cut; a LIST of versions, by the "
            + "ids of their warnings, of each at most one; and PAGES that it sent in the latest minute.");
        TERMS.story("Each cell has a LINE to the centre, which is whole at first, or cut;",
            "cell 0 0 1", "cell 0 0 1", "line 0 cut = yes", "line 0 whole = no", "line 0 whole = yes",
            "line 1 whole = yes", "line 1 cut = yes", "line 1 cut = no", "line 0 cut = yes");
        TERMS.story("a LIST of versions, by the ids of their warnings,",
            "cell 0 0 1", TYPED, "text 0 1", "issue 500 5 1 9 1", TYPED, "text 0 1", "issue 20 1 1 9 1", TYPED, "text 0 1",
            "issue 1000 3 1 9 1", TYPED, "text 0 1", "issue 3 2 1 9 1", "list 0 = nothing", "minute = 4",
            "list 0 = 3.1 20.1 500.1 1000.1", "cancel 20", "minute = 4", "list 0 = 3.1 -20.2 500.1 1000.1");
        TERMS.story("of each at most one;",
            "cell 0 0 1", TYPED, "text 0 1", "issue 1 5 1 9 1", "minute = 1", TYPED, "text 0 1", "update 1 1 9 1",
            "list 0 = 1.1", "minute = 1", "list 0 = 1.2", "cancel 1", "minute = 1", "list 0 = -1.3");
        TERMS.story("and PAGES that it sent in the latest minute.",
            "cell 0 0 1", TYPED, "bytes 0 11", "issue 1 1 2 9 2", "pages 0 = nothing", "minute = 0", "pages 0 = nothing",
            "minute = 2", "pages 0 = 1.1/0.0:10 1.1/0.1:1", "cancel 1", "pages 0 = 1.1/0.0:10 1.1/0.1:1", "minute = 1",
            "pages 0 = 1.2/3.0:0");
    }

    private static void theClockInAMinute() {
        TERMS.sentence("A MINUTE goes like this: the clock is one more.");
        TERMS.story("A MINUTE goes like this: the clock is one more.",
            "cell 0 0 1", TYPED, "text 0 1", "issue 1 1 3 9 2", "total 0 = 0", "minute = 0", "total 0 = 1", "minute = 0",
            "total 0 = 2", "minute = 1", "total 0 = 3", "minute = 0", "total 0 = 4", "minute = 1", "total 0 = 5");
    }

    private static void listsMadeAnew() {
        TERMS.sentence("Then, for each cell: with a whole line its list is made anew, from the newest versions of all "
            + "warnings whose end is greater than the clock: those that are spoken and cover it, and cancels of "
            + "warnings of which it listed a version before.");
        TERMS.story("Then, for each cell: with a whole line its list is made anew,",
            "cell 0 0 1", "cell 0 0 1", "cell 0 0 1", TYPED, "text 0 1", "issue 1 1 1 9 1", "line 1 cut",
            "list 0 = nothing", "minute = 2", "list 0 = 1.1", "list 1 = nothing", "list 2 = 1.1", "line 1 whole",
            "list 1 = nothing", "minute = 3", "list 1 = 1.1");
        TERMS.story("from the newest versions of all warnings whose end is greater than the clock:",
            "cell 0 0 1", TYPED, "text 0 1", "issue 1 1 1 20 1", TYPED, "text 0 1", "issue 2 1 1 5 1", TYPED, "text 0 1",
            "issue 3 1 1 4 1", "minute = 3", TYPED, "text 0 1", "update 1 1 5 1", "2 x minute = 3",
            "list 0 = 1.2 2.1 3.1", "minute = 2", "list 0 = 1.2 2.1", "minute = 0", "list 0 = nothing");
        TERMS.story("those that are spoken and cover it,",
            "cell 0 0 1", "cell 100 0 1", TYPED, "text 0 1", "issue 1 1 7 9 1 = 1", "near 100 0", "text 0 1",
            "issue 2 1 1 9 1 = 1", "minute = 1", "list 0 = 1.1", "list 1 = 2.1", "near 100 0", "text 0 1",
            "update 1 1 9 1 = 1", "minute = 2", "list 0 = nothing", "list 1 = 1.2 2.1");
        TERMS.story("and cancels of warnings of which it listed a version before. | where it stood in the list",
            "cell 0 0 1", "cell 100 0 1", TYPED, "text 0 1", "issue 1 1 1 9 1 = 1", "minute = 1", "cancel 1",
            "list 0 = 1.1", "minute = 1", "list 0 = -1.2", "list 1 = nothing", "minute = 1", "list 0 = -1.2");
        TERMS.story("and cancels of warnings of which it listed a version before. | not yet listed",
            "cell 0 0 1", TYPED, "text 0 1", "issue 1 1 1 9 1 = 1", "cancel 1", "minute = 0", "list 0 = nothing");
        TERMS.story("and cancels of warnings of which it listed a version before. | no longer listed",
            "cell 0 0 1", TYPED, "text 0 1", "issue 1 1 1 9 1 = 1", "minute = 1", "near 100 0", "text 0 1",
            "update 1 1 9 1 = 0", "minute = 0", "cancel 1", "minute = 0", "list 0 = nothing");
    }

    private static void listsOfCutLines() {
        TERMS.sentence("With a line that is cut the list stays, but for versions whose end is not greater than the "
            + "clock.");
        TERMS.story("With a line that is cut the list stays,",
            "cell 0 0 1", TYPED, "text 0 1", "issue 1 1 1 20 1", TYPED, "text 0 1", "issue 2 1 1 20 1", TYPED, "text 0 1",
            "issue 3 1 1 20 1", "minute = 3", "cancel 3", "minute = 3", "line 0 cut", TYPED, "text 1 1",
            "update 1 1 20 1", "cancel 2", TYPED, "text 1 1", "issue 4 1 3 20 1 = 1", "2 x minute = 3",
            "list 0 = 1.1 2.1 -3.2", "pages 0 = 1.1/0.0:1 2.1/0.0:1 3.2/3.0:0");
        TERMS.story("but for versions whose end is not greater than the clock.",
            "cell 0 0 1", TYPED, "text 0 1", "issue 1 1 1 4 1", TYPED, "text 0 1", "issue 2 1 1 5 1", "minute = 2",
            "cancel 1", "minute = 2", "line 0 cut", "minute = 2", "list 0 = -1.2 2.1", "minute = 1", "list 0 = 2.1",
            "minute = 0", "list 0 = nothing");
    }

    private static void sends() {
        TERMS.sentence("Then it SENDS, for each version of its list, by falling severity, and of the same severity by "
            + "rising id: if it is spoken, and the clock is its beginning, or later by a multiple of its span: for each "
            + "language that it offers, by number, all its pages, by number; if it is a cancel, one page (of language "
            + "3, number 0).");
        TERMS.story("Then it SENDS, for each version of its list, by falling severity,",
            "cell 0 0 1", TYPED, "text 0 1", "issue 1 2 1 9 1", TYPED, "text 0 1", "issue 2 5 1 9 1", TYPED, "text 0 1",
            "issue 3 1 1 9 1", TYPED, "text 0 1", "issue 4 4 1 9 1", TYPED, "text 0 1", "issue 5 3 1 9 1", "minute = 5",
            "pages 0 = 2.1/0.0:1 4.1/0.0:1 5.1/0.0:1 1.1/0.0:1 3.1/0.0:1");
        TERMS.story("and of the same severity by rising id:",
            "cell 0 0 1", TYPED, "text 0 1", "issue 30 2 1 9 1", TYPED, "text 0 1", "issue 4 3 1 9 1", TYPED, "text 0 1",
            "issue 9 2 1 9 1", TYPED, "text 0 1", "issue 200 3 1 9 1", "minute = 4",
            "pages 0 = 4.1/0.0:1 200.1/0.0:1 9.1/0.0:1 30.1/0.0:1");
        TERMS.story("if it is spoken, and the clock is its beginning, or later by a multiple of its span:",
            "cell 0 0 1", TYPED, "text 0 1", "issue 1 1 3 20 4", "minute = 0", "minute = 0", "minute = 1", "minute = 0",
            "minute = 0", "minute = 0", "minute = 1", "3 x minute = 0", "minute = 1", "list 0 = 1.1");
        TERMS.story("for each language that it offers, by number, all its pages, by number;",
            "cell 0 0 1", TYPED, "bytes 2 13", "bytes 0 25", "issue 1 1 1 9 1", TYPED, "bytes 1 10", "issue 2 1 1 9 1",
            "minute = 6", "pages 0 = 1.1/0.0:10 1.1/0.1:10 1.1/0.2:5 1.1/2.0:10 1.1/2.1:3 2.1/1.0:10");
        TERMS.story("if it is a cancel, one page (of language 3, number 0).",
            "cell 0 0 1", TYPED, "bytes 0 30", "bytes 1 30", "issue 1 1 1 9 7", "minute = 6", "cancel 1", "minute = 1",
            "pages 0 = 1.2/3.0:0", "minute = 1", "sent 0 0 2 = 3", "sent 0 0 3 = 0", "sent 0 1 0 ! bounds");
        TERMS.story("if it is a cancel, one page | in the order of its severity",
            "cell 0 0 1", TYPED, "text 0 1", "issue 1 3 1 9 1", TYPED, "text 0 1", "issue 2 4 1 9 1", TYPED, "text 0 1",
            "issue 3 4 1 9 1", "minute = 3", "cancel 2", "minute = 3", "pages 0 = 2.2/3.0:0 3.1/0.0:1 1.1/0.0:1");
    }

    private static void handsets() {
        TERMS.sentence("HANDSETS, up to 3, are numbered as they are made; each has a THRESHOLD, 0 .. 5, a row of up to "
            + "3 languages that it LIKES, at first none, a cell where it CAMPS, at first none, and a number of pages "
            + "that it is going to MISS, at first 0.");
        TERMS.story("HANDSETS, up to 3, are numbered as they are made;",
            "handset 1 = 0", "handset 1 = 1", "minute", "handset 1 = 2", "handset 1 ! state", "total 4 = 3");
        TERMS.story("each has a THRESHOLD, 0 .. 5,",
            "handset -1 ! argument", "handset 6 ! argument", "handset 0 = 0", "handset 5 = 1", "cell 0 0 1", "camp 0 0",
            "camp 1 0", TYPED, "text 0 1", "issue 1 4 1 9 1", "minute = 1", "total 10 = 1", "total 11 = 0");
        TERMS.story("a row of up to 3 languages that it LIKES, at first none,",
            "handset 0", "handset 0", "likes 0 2 = 1", "likes 0 0 = 2", "likes 0 1 = 3", "likes 0 1 ! state",
            "likes 1 1 = 1", "likes 1 1 = 2");
        TERMS.story("at first none, | so that it chooses the least",
            "cell 0 0 1", "handset 0", "camp 0 0", TYPED, "bytes 2 2", "bytes 1 1", "issue 1 1 1 9 1", "minute = 2",
            "screen 0 = 1.1/1@1=a!");
        TERMS.story("a cell where it CAMPS, at first none, | so that it hears nothing",
            "cell 0 0 1", "cell 0 0 1", "handset 0", "handset 0", TYPED, "text 0 97", "issue 1 1 1 9 1", "minute = 2",
            "screen 0 = nothing", "camp 0 1 = NONE", "camp 0 0 = 1", "minute = 2", "screen 0 = 1.1/0@2=a!",
            "screen 1 = nothing", "camp 1 NONE = NONE");
        TERMS.story("and a number of pages that it is going to MISS, at first 0.",
            "cell 0 0 1", "handset 0", "handset 0", "miss 0 0 = 0", "camp 0 0", "camp 1 0", "miss 1 1 = 1", TYPED,
            "text 0 97", "issue 1 1 1 9 1", "minute = 1", "screen 0 = 1.1/0@1=a!", "screen 1 = nothing", "minute = 1",
            "screen 1 = 1.1/0@2=a!", "miss 1 0 = 0");
    }

    private static void hears() {
        TERMS.sentence("Behind all cells, in each minute, each handset goes through the pages of its cell in their "
            + "order: a page that it is going to miss is one less of these; all others it HEARS.");
        TERMS.story("Behind all cells, in each minute,",
            "8 x cell 0 0 1", "handset 0", "handset 0", "camp 0 0", "camp 1 7", TYPED, "text 0 97", "issue 1 1 1 9 1",
            "screen 0 = nothing", "minute = 8", "screen 0 = 1.1/0@1=a!", "screen 1 = 1.1/0@1=a!");
        TERMS.story("each handset goes through the pages of its cell in their order:",
            "cell 0 0 1", "cell 100 0 1", "handset 0", "handset 0", "camp 0 0", "camp 1 1", TYPED, "text 0 97",
            "issue 1 1 1 9 1", TYPED, "text 0 98", "issue 2 4 1 9 1", "near 100 0", "text 0 99", "issue 3 1 1 9 1",
            "minute = 3", "screen 0 = 2.1/0@1=b! 1.1/0@1=a!", "screen 1 = 3.1/0@1=c!");
        story("a page that it is going to miss is one less of these;", CAMPED,
            TYPED, "bytes 0 21", "issue 1 1 1 9 1", "miss 0 5", "minute = 3", "miss 0 0 = 2", "minute = 3",
            "miss 0 0 = 0", "screen 0 = nothing", "minute = 3", "screen 0 = 1.1/0@3=abcdefghijklmnopqrstu!");
        story("all others it HEARS.", CAMPED, TYPED, "bytes 0 1", "bytes 1 1", "issue 1 1 1 9 1", TYPED, "bytes 0 1",
            "issue 2 1 1 9 1", "likes 0 1", "miss 0 1", "minute = 3", "screen 0 = 1.1/1@1=a! 2.1/0@1=a!");
    }

    private static void keepsTheNewest() {
        TERMS.sentence("It keeps for each warning the newest version of which it heard a page; pages of older ones do "
            + "nothing.");
        story("It keeps for each warning the newest version of which it heard a page;", CAMPED,
            TYPED, "bytes 0 1", "issue 1 1 1 9 1", TYPED, "bytes 0 1", "issue 2 1 1 9 1", "minute = 2", TYPED,
            "bytes 0 11", "update 1 1 9 1", "screen 0 = 1.1/0@1=a! 2.1/0@1=a!", "miss 0 2", "minute = 3",
            "screen 0 = 1.1/0@1=a! 2.1/0@1=a!", "miss 0 1", "minute = 3", "screen 0 = 1.1/0@1=a 2.1/0@1=a!");
        story("pages of older ones do nothing. | behind a page of an update", CAMPED,
            "cell 0 0 1", "camp 0 NONE", TYPED, "bytes 0 1", "issue 1 4 1 9 1", "minute = 2", "line 0 cut", TYPED,
            "bytes 1 11", "update 1 4 9 1", "camp 0 1", "miss 0 1", "minute = 3", "camp 0 0", "minute = 3",
            "pages 0 = 1.1/0.0:1", "screen 0 = nothing", "total 10 = 0", "camp 0 1", "minute = 3",
            "screen 0 = 1.2/1@4=abcdefghijk!");
        story("pages of older ones do nothing. | behind a cancel", CAMPED,
            "cell 0 0 1", TYPED, "bytes 0 1", "issue 1 4 1 9 1", "camp 0 NONE", "minute = 2", "line 0 cut", "cancel 1",
            "camp 0 1", "minute = 2", "camp 0 0", "minute = 2", "pages 0 = 1.1/0.0:1", "screen 0 = nothing",
            "total 10 = 0");
    }

    private static void holdsAndShows() {
        TERMS.sentence("For a page of a spoken version it holds that page then; if it did not show that version yet, "
            + "and holds all pages of the language that it CHOOSES (the first of those that it likes that the version "
            + "offers; otherwise the least that it offers), it SHOWS it; and if its severity is the threshold or more, "
            + "that is an ALARM.");
        story("For a page of a spoken version it holds that page then; | until the others come", CAMPED,
            TYPED, "bytes 0 11", "issue 1 1 1 9 1", "miss 0 1", "minute = 2", "screen 0 = nothing", "camp 0 NONE",
            "minute = 2", "camp 0 0", "minute = 2", "screen 0 = 1.1/0@3=abcdefghijk!");
        story("For a page of a spoken version | a cancel's page is none", CAMPED,
            TYPED, "bytes 0 1", "issue 1 4 1 9 1", "minute = 1", "cancel 1", "minute = 1", "screen 0 = 1.1/0@1=a",
            "total 10 = 1");
        story("if it did not show that version yet,", CAMPED,
            TYPED, "bytes 0 1", "issue 1 4 1 9 1", "3 x minute = 1", "screen 0 = 1.1/0@1=a!", "total 10 = 1", TYPED,
            "bytes 0 1", "update 1 4 9 1", "2 x minute = 1", "screen 0 = 1.1/0@1=a 1.2/0@4=a!", "total 10 = 2");
        story("and holds all pages of the language that it CHOOSES", CAMPED,
            "likes 0 1", TYPED, "bytes 0 1", "bytes 1 30", "issue 1 1 1 9 1", "miss 0 2", "minute = 4",
            "screen 0 = nothing", "miss 0 2", "minute = 4", "screen 0 = nothing", "minute = 4",
            "screen 0 = 1.1/1@3=abcdefghijklmnopqrstuvwxyzabcd!");
        for (int missed = 0; missed <= 6; missed++) {
            story("and holds all pages of the language that it CHOOSES | not those of others: " + missed + " missed",
                CAMPED, "likes 0 1", TYPED, "bytes 0 30", "bytes 1 21", "bytes 2 30", "issue 1 3 1 9 9",
                "miss 0 " + missed, "minute = 9", "total 10 = " + (missed <= 3 ? 1 : 0));
        }
        story("it SHOWS it;", CAMPED,
            TYPED, "text 0 0", "text 0 255", "issue 7 1 2 9 1", "minute", "minute", "shown 0 0 0 = 7", "shown 0 0 1 = 1",
            "shown 0 0 2 = 0", "shown 0 0 3 = 2", "shown 0 0 5 = 2", "shownByte 0 0 0 = 0", "shownByte 0 0 1 = 255",
            "shown 0 1 0 ! bounds");
    }

    private static void choosesAndAlarms() {
        choice("(the first of those that it likes that the version offers; | the first", "2 0", "0 1 2", 2);
        choice("(the first of those that it likes that the version offers; | the second", "2 1", "0 1", 1);
        choice("(the first of those that it likes that the version offers; | the third", "2 2 1", "0 1", 1);
        choice("otherwise the least that it offers), | it likes another", "0", "1 2", 1);
        choice("otherwise the least that it offers), | it likes others", "0 1", "2", 2);
        choice("otherwise the least that it offers), | it likes none", "", "0 1 2", 0);
        story("and if its severity is the threshold or more, that is an ALARM.", CAMPED,
            TYPED, "bytes 0 1", "issue 1 2 1 9 1", "minute = 1", "total 10 = 0", "screen 0 = 1.1/0@1=a!", TYPED,
            "bytes 0 1", "issue 2 3 2 9 1", "minute = 2", "total 10 = 1", TYPED, "bytes 0 1", "issue 3 4 3 9 1",
            "minute = 3", "total 10 = 2");
        TERMS.story("that is an ALARM. | of each handset for itself",
            "cell 0 0 1", "handset 0", "handset 2", "handset 3", "camp 0 0", "camp 1 0", "camp 2 0", TYPED, "bytes 0 1",
            "issue 1 2 1 9 1", "minute = 1", "total 10 = 1", "total 11 = 1", "total 12 = 0");
    }

    private static void choice(String words, String liked, String offered, int due) {
        List<String> rows = new ArrayList<>(CAMPED);
        for (String language : liked.isEmpty() ? new String[0] : liked.split(" ")) {
            rows.add("likes 0 " + language);
        }
        rows.add(TYPED);
        for (String language : offered.split(" ")) {
            rows.add("text " + language + " " + ('x' + Integer.parseInt(language)));
        }
        story(words, rows, "issue 1 1 1 9 1", "minute", "screen 0 = 1.1/" + due + "@1=" + (char) ('x' + due) + "!");
    }

    private static void throwing() {
        TERMS.sentence("Methods throw what they list, the first that is so, in the order in which it is told; a call "
            + "that throws changes nothing.");
        TERMS.story("Methods throw what they list, the first that is so, in the order in which it is told;",
            "8 x cell 0 0 1", "cell 0 0 0 ! argument", "8 x corner 0 0", "corner 1001 0 ! argument", "bytes 0 30",
            "text 0 256 ! argument", "issue 0 1 1 9 1 ! argument", "issue 1 1 1 9 1 ! unsupported",
            "update 1 0 9 1 ! argument", "update 1 1 9 1 ! unsupported", "cancel 1 ! state", "line 8 cut ! bounds",
            "likes 0 3 ! bounds", "camp 0 8 ! bounds", "miss 0 1001 ! bounds", "covers 1 8 ! bounds",
            "covers 1 0 ! state", "listed 0 0 5 ! bounds", "sent 0 0 5 ! bounds", "shown 0 0 6 ! bounds",
            "shownByte 0 0 0 ! bounds", "3 x handset 0", "handset 6 ! argument", "3 x likes 0 0", "likes 0 3 ! argument",
            "likes 0 0 ! state");
        // Telling a story with refused calls compares it with the story without them.
        story("a call that throws changes nothing.", CAMPED,
            TYPED, "bytes 0 2", "cell 0 0 0 ! argument", "corner 0 -1001 ! argument", "text 0 256 ! argument",
            "issue 1 1 0 9 1 ! argument", "issue 1 1 1 9 1 = 1", "issue 1 1 1 9 1 ! unsupported", TYPED, "bytes 1 1",
            "issue 1 1 1 9 1 ! state", "update 1 1 1 1 ! argument", "update 2 1 9 1 ! state", "cancel 2 ! state",
            "line 1 cut ! bounds", "handset 6 ! argument", "likes 0 3 ! argument", "camp 0 1 ! bounds",
            "miss 0 -1 ! argument", "clear = 4", "minute = 1", "screen 0 = 1.1/0@1=ab!");
    }
}
