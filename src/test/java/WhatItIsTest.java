/** "What it is": the whole way of a warning, and the 512 calls of an object. */
public final class WhatItIsTest {
    private static final Telling IT = new Telling("What it is");

    public static void main(String[] args) {
        theWayOfAWarning();
        calls();
        IT.finish();
        Check.finish();
    }

    private static void theWayOfAWarning() {
        IT.sentence("Warnings for areas: a centre turns polygons into cells and texts into pages, cells send them "
            + "minute by minute as long as they last, and handsets gather pages from the cell where they are, and show "
            + "each text once, whole, in a language of theirs.");
        IT.story("Warnings for areas: a centre turns polygons into cells and texts into pages,",
            "cell 0 0 5", "cell 100 0 5", "cell 500 0 5", "area 0 0 50 40 100 0 50 90", "bytes 0 12", "bytes 2 3",
            "issue 1 2 1 4 1 = 2", "covers 1 0 = yes", "covers 1 1 = yes", "covers 1 2 = no", "minute = 6",
            "pages 0 = 1.1/0.0:10 1.1/0.1:2 1.1/2.0:3", "pages 1 = 1.1/0.0:10 1.1/0.1:2 1.1/2.0:3",
            "pages 2 = nothing");
        IT.story("cells send them minute by minute as long as they last,",
            "cell 0 0 5", "near 0 0", "bytes 0 1", "issue 1 2 2 6 1", "near 0 0", "bytes 0 1", "issue 2 2 1 9 3",
            "minute = 1", "minute = 1", "minute = 1", "minute = 2", "minute = 1", "minute = 0", "minute = 1",
            "minute = 0", "minute = 0", "minute = 0");
        IT.story("and handsets gather pages from the cell where they are, and show each text once, whole, in a "
            + "language of theirs.",
            "cell 0 0 5", "cell 500 0 5", "handset 3", "likes 0 2", "camp 0 0", "handset 3", "camp 1 1", "near 0 0",
            "bytes 0 3", "bytes 2 12", "issue 1 2 1 9 1", "miss 0 3", "minute = 3", "screen 0 = nothing",
            "minute = 3", "screen 0 = 1.1/2@2=abcdefghijkl!", "minute = 3", "screen 0 = 1.1/2@2=abcdefghijkl!",
            "screen 1 = nothing");
    }

    private static void calls() {
        IT.sentence("An object is used for at most 512 calls after it has been made; what later calls answer is free.");
        IT.story("An object is used for at most 512 calls after it has been made; what later calls answer is free. "
            + "| minutes to the last call", "cell 0 0 1", "near 0 0", "text 0 1", "issue 1 1 1 1000 1",
            "504 x minute = 1", "total 0 = 504");
        IT.story("what later calls answer is free. | bytes to the last call",
            "17 x clear = 0", "bytes 0 30", "clear = 30", "bytes 1 30", "clear = 30", "bytes 2 30", "clear = 30",
            "400 x version 1 = 0", "clear = 0", "text 0 255 = 1");
    }
}
