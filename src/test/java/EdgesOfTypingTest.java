/** The boundary cases of promises 1 to 5: a new object, cells, corners, texts, clear. */
public final class EdgesOfTypingTest {
    public static void main(String[] args) {
        newObject();
        newObjectsAreApart();
        cellCoordinates();
        cellRadius();
        cellsUpToEight();
        cellsAtTheRim();
        cornerCoordinates();
        cornersUpToEight();
        cornersAtTheRim();
        textLanguages();
        textValues();
        textsUpToThirty();
        textIsOffered();
        clearEmptyAndFull();
        clearAloneForgets();
        Check.finish();
    }

    private static void newObject() {
        Story.tell("The clock shows 0",
            "total 0 = 0", "minute = 0", "total 0 = 1");
        Story.tell("there are no cells",
            "total 1 = 0", "line 0 whole ! bounds", "line 0 cut ! bounds", "listed 0 0 0 ! bounds",
            "sent 0 0 0 ! bounds", "covers 1 0 ! bounds", "minute = 0");
        Story.tell("there are no warnings",
            "total 2 = 0", "total 3 = 0", "version 1 = 0", "version 1000 = 0", "cancel 1 ! state", "cell 0 0 1",
            "covers 1 0 ! state", "minute = 0", "listed 0 0 0 ! bounds", "sent 0 0 0 ! bounds");
        Story.tell("there are no handsets",
            "total 4 = 0", "total 10 = NONE", "total 11 = NONE", "total 12 = NONE", "likes 0 0 ! bounds",
            "camp 0 NONE ! bounds", "miss 0 0 ! bounds", "shown 0 0 0 ! bounds", "shownByte 0 0 0 ! bounds");
        Story.tell("nothing is typed",
            "issue 1 1 1 2 1 ! unsupported", "clear = 0", "corner 0 0 = 1", "text 0 0 = 1", "text 1 0 = 1",
            "text 2 0 = 1");
    }

    private static void newObjectsAreApart() {
        Program one = new Program();
        for (Row row : Row.read("near 0 0")) {
            one.call(row.name(), row.a());
        }
        one.call("text", 0, 1);
        one.call("cell", 0, 0, 1);
        one.call("handset", 0);
        one.call("issue", 1, 1, 1, 9, 1);
        one.call("minute");
        one.call("corner", 0, 0);
        Program other = new Program();
        for (int what = 0; what <= 4; what++) {
            Check.equal("what one object made, another has not: total " + what, 0, other.call("total", what));
        }
        Check.equal("what is typed into one object, is not into another", 0, other.call("clear"));
        Check.equal("the first object keeps its own", 1, one.call("clear"));
    }

    private static void cellCoordinates() {
        Story.tell("a centre, whose coordinates are -1000 .. 1000: x",
            "cell -1000 0 1 = 0", "cell -1001 0 1 ! argument", "cell 1000 0 1 = 1", "cell 1001 0 1 ! argument",
            "cell MIN 0 1 ! argument", "cell MAX 0 1 ! argument", "total 1 = 2");
        Story.tell("a centre, whose coordinates are -1000 .. 1000: y",
            "cell 0 -1000 1 = 0", "cell 0 -1001 1 ! argument", "cell 0 1000 1 = 1", "cell 0 1001 1 ! argument",
            "cell 0 MIN 1 ! argument", "cell 0 MAX 1 ! argument", "total 1 = 2");
    }

    private static void cellRadius() {
        Story.tell("a radius, 1 .. 2000",
            "cell 0 0 1 = 0", "cell 0 0 0 ! argument", "cell 0 0 -1 ! argument", "cell 0 0 2000 = 1",
            "cell 0 0 2001 ! argument", "cell 0 0 MIN ! argument", "cell 0 0 MAX ! argument", "total 1 = 2");
    }

    private static void cellsUpToEight() {
        Story.tell("CELLS, up to 8, are numbered 0, 1, .. as they are made",
            "total 1 = 0", "cell 0 0 1 = 0", "cell 0 0 1 = 1", "cell 1 1 1 = 2", "cell 0 0 2 = 3", "cell 0 0 1 = 4",
            "cell 0 0 1 = 5", "cell 0 0 1 = 6", "total 1 = 7", "cell 0 0 1 = 7", "total 1 = 8",
            "cell 0 0 1 ! state", "cell 500 500 7 ! state", "total 1 = 8");
        Story.tell("a refused cell takes no number",
            "cell 0 0 0 ! argument", "cell 0 0 1 = 0", "cell 0 1001 1 ! argument", "cell 0 0 1 = 1");
    }

    private static void cellsAtTheRim() {
        Story.tell("a cell at the least and at the greatest coordinates is where it was told to be",
            "cell -1000 -1000 1 = 0", "cell 1000 1000 1 = 1", "cell -1000 1000 1 = 2", "cell 1000 -1000 1 = 3",
            "area -1000 -1000 -998 -1000 -1000 -998", "text 0 1", "issue 1 1 1 9 1 = 1", "covers 1 0 = yes",
            "area 1000 1000 998 1000 1000 998", "text 0 1", "issue 2 1 1 9 1 = 1", "covers 2 1 = yes",
            "area -1000 1000 -998 1000 -1000 998", "text 0 1", "issue 3 1 1 9 1 = 1", "covers 3 2 = yes",
            "area 1000 -1000 998 -1000 1000 -998", "text 0 1", "issue 4 1 1 9 1 = 1", "covers 4 3 = yes");
    }

    private static void cornerCoordinates() {
        Story.tell("CORNERS, with coordinates -1000 .. 1000: x",
            "corner -1000 0 = 1", "corner -1001 0 ! argument", "corner 1000 0 = 2", "corner 1001 0 ! argument",
            "corner MIN 0 ! argument", "corner MAX 0 ! argument", "clear = 2");
        Story.tell("CORNERS, with coordinates -1000 .. 1000: y",
            "corner 0 -1000 = 1", "corner 0 -1001 ! argument", "corner 0 1000 = 2", "corner 0 1001 ! argument",
            "corner 0 MIN ! argument", "corner 0 MAX ! argument", "clear = 2");
    }

    private static void cornersUpToEight() {
        Story.tell("a row of up to 8 CORNERS: how many there are",
            "corner 0 0 = 1", "corner 0 0 = 2", "corner 1 0 = 3", "corner 0 1 = 4", "corner 0 0 = 5",
            "corner 0 0 = 6", "corner 0 0 = 7", "corner 0 0 = 8", "corner 0 0 ! state", "corner 5 5 ! state",
            "clear = 8", "corner 0 0 = 1");
        Story.tell("an area of 8 corners is used whole, and a ninth is not in it",
            "cell 100 50 1", "cell 0 70 1", "cell 300 300 9",
            "area 0 0 50 -20 100 0 120 50 100 100 50 120 0 100 -20 50", "corner 300 300 ! state", "text 0 1",
            "issue 1 1 1 9 1 = 2", "covers 1 0 = yes", "covers 1 1 = yes", "covers 1 2 = no", "corner 0 0 = 1");
    }

    private static void cornersAtTheRim() {
        Story.tell("corners at the least and at the greatest coordinates are where they were told to be",
            "cell -1000 1000 1", "cell 1000 -1000 1", "cell 0 0 1", "cell 1000 0 1", "cell 0 -1000 1",
            "area -1000 -1000 1000 -1000 1000 1000 -1000 1000", "text 0 1", "issue 1 1 1 9 1 = 5");
    }

    private static void textLanguages() {
        Story.tell("IllegalArgument: language is not 0 .. 2",
            "text -1 0 ! argument", "text 0 0 = 1", "text 1 0 = 1", "text 2 0 = 1", "text 3 0 ! argument",
            "text MIN 0 ! argument", "text MAX 0 ! argument", "clear = 3");
    }

    private static void textValues() {
        Story.tell("or value not 0 .. 255",
            "text 0 -1 ! argument", "text 0 0 = 1", "text 0 255 = 2", "text 0 256 ! argument",
            "text 0 MIN ! argument", "text 0 MAX ! argument", "clear = 2");
        Story.tell("the least and the greatest byte are shown as they were typed",
            "cell 0 0 1", "handset 0", "camp 0 0", "near 0 0", "text 1 0", "text 1 255", "text 1 127", "text 1 128",
            "issue 1 1 1 9 1", "minute = 1", "shownByte 0 0 0 = 0", "shownByte 0 0 1 = 255", "shownByte 0 0 2 = 127",
            "shownByte 0 0 3 = 128");
    }

    private static void textsUpToThirty() {
        for (int language = 0; language < 3; language++) {
            int another = (language + 1) % 3;
            Story.tell("each of up to 30 bytes: language " + language,
                "bytes " + language + " 28", "text " + language + " 7 = 29", "text " + language + " 7 = 30",
                "text " + language + " 7 ! state", "text " + language + " 0 ! state", "text " + another + " 7 = 1",
                "text " + language + " 7 ! state", "clear = 31", "text " + language + " 7 = 1");
        }
        Story.tell("all three texts are full",
            "bytes 0 30", "bytes 1 30", "bytes 2 30", "text 0 1 ! state", "text 1 1 ! state", "text 2 1 ! state",
            "clear = 90");
        Story.tell("of a full text the byte that was refused is not shown",
            "cell 0 0 1", "handset 0", "camp 0 0", "near 0 0", "bytes 2 29", "text 2 120",
            "text 2 121 ! state", "issue 1 1 1 9 1", "minute = 3", "shown 0 0 5 = 30", "shownByte 0 0 29 = 120",
            "shownByte 0 0 30 ! bounds");
    }

    private static void textIsOffered() {
        for (int language = 0; language < 3; language++) {
            Story.tell("a language is OFFERED when its text is not empty: one byte in language " + language,
                "cell 0 0 1", "near 0 0", "issue 1 1 1 9 1 ! unsupported", "text " + language + " 0",
                "issue 1 1 1 9 1 = 1", "minute = 1", "pages 0 = 1.1/" + language + ".0:1");
        }
    }

    private static void clearEmptyAndFull() {
        Story.tell("how many corners and bytes there were in all: none",
            "clear = 0", "clear = 0");
        Story.tell("how many corners and bytes there were in all: one of each",
            "corner 0 0", "clear = 1", "text 0 0", "clear = 1", "text 1 0", "clear = 1", "text 2 0", "clear = 1",
            "clear = 0");
        Story.tell("how many corners and bytes there were in all: the most",
            "8 x corner 0 0", "bytes 0 30", "bytes 1 30", "bytes 2 30", "clear = 98", "clear = 0");
        Story.tell("Nothing is typed any more: as much as before can be typed again",
            "8 x corner 0 0", "bytes 0 30", "bytes 1 30", "bytes 2 30", "corner 0 0 ! state", "clear = 98",
            "7 x corner 0 0", "corner 0 0 = 8", "corner 0 0 ! state", "bytes 1 29", "text 1 0 = 30",
            "text 1 0 ! state", "text 0 0 = 1", "clear = 39");
    }

    private static void clearAloneForgets() {
        Story.tell("Nothing is typed any more: neither area nor texts",
            "near 0 0", "text 0 1", "clear = 5", "text 0 1", "issue 1 1 1 9 1 ! unsupported", "clear = 1", "near 0 0",
            "issue 1 1 1 9 1 ! unsupported", "clear = 4");
        Story.tell("clear leaves all else as it is",
            "cell 0 0 1", "handset 2", "camp 0 0", "likes 0 1", "miss 0 3", "near 0 0", "bytes 0 12",
            "issue 3 2 1 9 1 = 1", "line 0 cut", "corner 1 1", "clear = 1", "line 0 whole = no", "total 0 = 0",
            "total 1 = 1", "total 2 = 1", "total 3 = 1", "total 4 = 1", "camp 0 0 = 0", "miss 0 0 = 3",
            "likes 0 2 = 2", "version 3 = 1", "covers 3 0 = yes", "minute = 2", "clear = 0", "list 0 = 3.1",
            "pages 0 = 3.1/0.0:10 3.1/0.1:2", "minute = 2", "clear = 0", "minute = 2",
            "screen 0 = 3.1/0@3=abcdefghijkl!", "clear = 0", "screen 0 = 3.1/0@3=abcdefghijkl!");
        Story.tell("Nothing is typed any more: what a version was made of stays with it",
            "cell 0 0 1", "handset 0", "camp 0 0", "near 0 0", "bytes 0 3", "issue 1 1 1 9 1", "near 500 0",
            "bytes 1 8", "clear = 12", "bytes 0 1", "covers 1 0 = yes", "minute = 1", "screen 0 = 1.1/0@1=abc!");
    }
}
