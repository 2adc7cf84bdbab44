import java.util.ArrayList;
import java.util.List;

/** The boundary cases of promises 11 to 14 and 19 to 21: handsets, what they hear and show, totals. */
public final class EdgesOfHearingTest {
    /** A cell, and a handset that camps there. */
    private static final List<String> CAMPED = List.of("cell 0 0 1", "handset 3", "camp 0 0");

    public static void main(String[] args) {
        handsetThreshold();
        handsetsUpToThree();
        likesLanguages();
        likesUpToThree();
        likesOfNoHandset();
        campAtFirstNowhere();
        campBounds();
        campFromNowOn();
        missNumbers();
        missOfNoHandset();
        missExactly();
        missWhereNothingIsSent();
        chooses();
        choosesAnew();
        holdsAllPages();
        holdsPagesOfThisVersion();
        olderPagesDoNothing();
        showsOnce();
        showsInTheirOrder();
        alarms();
        currentUntilItsEnd();
        currentUntilANewerPage();
        mostShown();
        shownBounds();
        shownByteBounds();
        totals();
        Check.finish();
    }

    private static void tell(String sentence, String... more) {
        List<String> all = new ArrayList<>(CAMPED);
        all.addAll(List.of(more));
        Story.tell(sentence, all.toArray(new String[0]));
    }

    private static void handsetThreshold() {
        Story.tell("IllegalArgument: threshold is not 0 .. 5",
            "handset -1 ! argument", "handset 0 = 0", "handset 6 ! argument", "handset 5 = 1", "handset MIN ! argument",
            "handset MAX ! argument", "total 4 = 2");
    }

    private static void handsetsUpToThree() {
        Story.tell("HANDSETS, up to 3, are numbered as they are made",
            "total 4 = 0", "handset 3 = 0", "handset 3 = 1", "total 4 = 2", "total 12 = NONE", "handset 3 = 2",
            "total 4 = 3", "total 12 = 0", "handset 3 ! state", "handset 0 ! state", "total 4 = 3", "total 13 = NONE");
        Story.tell("a refused handset takes no number",
            "handset 6 ! argument", "handset 1 = 0", "handset -1 ! argument", "handset 1 = 1");
    }

    private static void likesLanguages() {
        Story.tell("likes: IllegalArgument: language is not 0 .. 2",
            "handset 0", "likes 0 -1 ! argument", "likes 0 0 = 1", "likes 0 3 ! argument", "likes 0 2 = 2",
            "likes 0 MIN ! argument", "likes 0 MAX ! argument", "likes 0 1 = 3");
    }

    private static void likesUpToThree() {
        Story.tell("a row of up to 3 languages that it LIKES, at first none",
            "handset 0", "handset 0", "likes 0 2 = 1", "likes 0 1 = 2", "likes 0 0 = 3", "likes 0 0 ! state",
            "likes 0 1 ! state", "likes 0 2 ! state", "likes 1 2 = 1");
        Story.tell("likes: a language twice counts twice",
            "handset 0", "likes 0 1 = 1", "likes 0 1 = 2", "likes 0 1 = 3", "likes 0 1 ! state", "likes 0 0 ! state");
        tell("IllegalState: it likes 3: the fourth is not liked",
            "likes 0 0", "likes 0 0", "likes 0 0", "likes 0 2 ! state", "area 0 0 9 0 0 9", "bytes 1 2", "bytes 2 3",
            "issue 1 1 1 9 1", "minute = 2", "screen 0 = 1.1/1@1=ab!");
        tell("behind those that it likes: the third is used too",
            "likes 0 0", "likes 0 0", "likes 0 2", "area 0 0 9 0 0 9", "bytes 1 2", "bytes 2 3", "issue 1 1 1 9 1",
            "minute = 2", "screen 0 = 1.1/2@1=abc!");
    }

    private static void likesOfNoHandset() {
        Story.tell("likes: IndexOutOfBounds: there is no such handset",
            "likes 0 0 ! bounds", "handset 0", "likes 0 0 = 1", "likes 1 0 ! bounds", "likes -1 0 ! bounds",
            "likes MAX 0 ! bounds", "likes MIN 0 ! bounds", "handset 0", "handset 0", "likes 2 0 = 1",
            "likes 3 0 ! bounds");
    }

    private static void campAtFirstNowhere() {
        Story.tell("a cell where it CAMPS, at first none",
            "cell 0 0 1", "handset 0", "camp 0 NONE = NONE", "near 0 0", "text 0 1", "issue 1 1 1 9 1", "minute = 1",
            "screen 0 = nothing", "camp 0 0 = NONE", "screen 0 = nothing", "minute = 1", "shown 0 0 3 = 2");
    }

    private static void campBounds() {
        Story.tell("camp: IndexOutOfBounds: there is no such handset",
            "cell 0 0 1", "camp 0 0 ! bounds", "camp 0 NONE ! bounds", "handset 0", "camp 0 0 = NONE",
            "camp 1 0 ! bounds", "camp 1 NONE ! bounds", "camp -1 0 ! bounds", "camp -1 NONE ! bounds",
            "camp MAX 0 ! bounds", "camp MIN 0 ! bounds", "handset 0", "handset 0", "camp 2 0 = NONE",
            "camp 3 0 ! bounds");
        Story.tell("camp: IndexOutOfBounds: there is no such cell",
            "handset 0", "camp 0 0 ! bounds", "camp 0 NONE = NONE", "8 x cell 0 0 1", "camp 0 0 = NONE", "camp 0 7 = 0",
            "camp 0 8 ! bounds", "camp 0 -2 ! bounds", "camp 0 MAX ! bounds", "camp 0 MIN ! bounds", "camp 0 NONE = 7",
            "camp 0 NONE = NONE");
    }

    private static void campFromNowOn() {
        tell("from now on (NONE: nowhere): where it camped",
            "cell 500 0 1", "near 0 0", "text 0 97", "issue 1 1 1 9 1", "near 500 0", "text 0 98", "issue 2 1 1 9 1",
            "camp 0 1 = 0", "minute = 2", "screen 0 = 2.1/0@1=b!", "camp 0 NONE = 1", "minute = 2",
            "screen 0 = 2.1/0@1=b!", "camp 0 0 = NONE", "camp 0 0 = 0", "screen 0 = 2.1/0@1=b!", "minute = 2",
            "screen 0 = 2.1/0@1=b! 1.1/0@3=a!");
        Story.tell("each handset camps for itself",
            "cell 0 0 1", "cell 500 0 1", "handset 0", "handset 0", "handset 0", "camp 1 1", "camp 2 0", "near 0 0",
            "text 0 97", "issue 1 1 1 9 1", "minute = 1", "screen 0 = nothing", "screen 1 = nothing",
            "screen 2 = 1.1/0@1=a!", "camp 0 NONE = NONE", "camp 1 NONE = 1", "camp 2 NONE = 0");
    }

    private static void missNumbers() {
        Story.tell("miss: IllegalArgument: n is not 0 .. 1000",
            "handset 0", "miss 0 -1 ! argument", "miss 0 0 = 0", "miss 0 1001 ! argument", "miss 0 1000 = 1000",
            "miss 0 MIN ! argument", "miss 0 MAX ! argument", "miss 0 0 = 1000");
        Story.tell("A handset is going to miss n pages more: how many in all",
            "handset 0", "handset 0", "miss 0 1 = 1", "miss 0 2 = 3", "miss 0 1000 = 1003", "miss 0 1000 = 2003",
            "miss 1 0 = 0", "miss 0 0 = 2003");
        Story.tell("the most that an object's calls leave room for",
            "handset 0", "509 x miss 0 1000", "miss 0 1000 = 510000");
    }

    private static void missOfNoHandset() {
        Story.tell("miss: IndexOutOfBounds: there is no such handset",
            "miss 0 0 ! bounds", "handset 0", "miss 0 1 = 1", "miss 1 1 ! bounds", "miss -1 1 ! bounds",
            "miss MAX 1 ! bounds", "miss MIN 1 ! bounds", "handset 0", "handset 0", "miss 2 1 = 1", "miss 3 1 ! bounds");
    }

    private static void missExactly() {
        for (int missed = 0; missed <= 4; missed++) {
            int minute = missed == 0 ? 1 : missed <= 3 ? 2 : 3;
            tell("a page that it is going to miss is one less of these: " + missed + " of 3",
                "near 0 0", "bytes 0 21", "issue 1 1 1 9 1", "miss 0 " + missed + " = " + missed, "minute = 3",
                "miss 0 0 = " + Math.max(0, missed - 3), "minute = 3", "miss 0 0 = 0", "minute = 3",
                "screen 0 = 1.1/0@" + minute + "=abcdefghijklmnopqrstu!");
        }
        tell("a page of a cancel is missed too",
            "near 0 0", "bytes 0 1", "issue 1 1 1 9 1", "minute = 1", "cancel 1", "miss 0 1", "minute = 1",
            "miss 0 0 = 0", "screen 0 = 1.1/0@1=a!", "minute = 1", "screen 0 = 1.1/0@1=a");
        tell("pages of all warnings are missed, in their order",
            "near 0 0", "bytes 0 1", "issue 1 1 1 9 1", "near 0 0", "bytes 0 1", "issue 2 3 1 9 1", "near 0 0",
            "bytes 0 1", "issue 3 2 1 9 1", "miss 0 2", "minute = 3", "screen 0 = 1.1/0@1=a!", "miss 0 0 = 0");
    }

    private static void missWhereNothingIsSent() {
        tell("where nothing is sent nothing is missed",
            "cell 500 0 1", "miss 0 2", "minute = 0", "miss 0 0 = 2", "near 0 0", "bytes 0 1", "issue 1 1 2 9 2",
            "camp 0 1", "minute = 1", "miss 0 0 = 2", "camp 0 NONE", "minute = 0", "minute = 1", "miss 0 0 = 2",
            "camp 0 0", "minute = 0", "miss 0 0 = 2", "minute = 1", "miss 0 0 = 1");
    }

    private static void chooses() {
        tell("the first of those that it likes that the version offers: the first",
            "likes 0 2", "likes 0 1", "area 0 0 9 0 0 9", "bytes 0 1", "bytes 1 2", "bytes 2 3", "issue 1 1 1 9 1",
            "minute = 3", "screen 0 = 1.1/2@1=abc!");
        tell("the first of those that it likes that the version offers: the second",
            "likes 0 2", "likes 0 1", "area 0 0 9 0 0 9", "bytes 0 1", "bytes 1 2", "issue 1 1 1 9 1", "minute = 2",
            "screen 0 = 1.1/1@1=ab!");
        tell("otherwise the least that it offers: it offers none that it likes",
            "likes 0 0", "area 0 0 9 0 0 9", "bytes 1 2", "bytes 2 3", "issue 1 1 1 9 1", "minute = 2",
            "screen 0 = 1.1/1@1=ab!");
        tell("otherwise the least that it offers: it likes none: 0",
            "area 0 0 9 0 0 9", "bytes 0 1", "bytes 1 2", "bytes 2 3", "issue 1 1 1 9 1", "minute = 3",
            "screen 0 = 1.1/0@1=a!");
        tell("otherwise the least that it offers: it likes none: 1",
            "area 0 0 9 0 0 9", "bytes 1 2", "bytes 2 3", "issue 1 1 1 9 1", "minute = 2", "screen 0 = 1.1/1@1=ab!");
        tell("otherwise the least that it offers: it likes none: 2",
            "area 0 0 9 0 0 9", "bytes 2 3", "issue 1 1 1 9 1", "minute = 1", "screen 0 = 1.1/2@1=abc!");
    }

    private static void choosesAnew() {
        tell("a language that it likes since the minute before",
            "area 0 0 9 0 0 9", "bytes 0 11", "bytes 1 1", "issue 1 1 1 9 1", "miss 0 1", "minute = 3",
            "screen 0 = nothing", "likes 0 1 = 1", "screen 0 = nothing", "minute = 3", "screen 0 = 1.1/1@2=a!");
        tell("a language that it likes behind the showing changes nothing of it",
            "area 0 0 9 0 0 9", "bytes 0 2", "bytes 1 1", "issue 1 1 1 9 1", "minute = 2", "likes 0 1", "minute = 2",
            "screen 0 = 1.1/0@1=ab!");
    }

    private static void holdsAllPages() {
        for (int language = 0; language < 3; language++) {
            for (int missed = 0; missed <= 9; missed++) {
                boolean whole = missed <= 3 * language;
                tell("holds all pages of the language " + language + ": of 9 pages it missed " + missed,
                    "likes 0 " + language, "area 0 0 9 0 0 9", "bytes 0 30", "bytes 1 30", "bytes 2 30",
                    "issue 1 3 1 9 1000", "miss 0 " + missed, "minute = 9", "total 10 = " + (whole ? 1 : 0),
                    whole ? "shown 0 0 2 = " + language : "shown 0 0 2 ! bounds");
            }
        }
        tell("holds all pages of the language: a page of another warning is missed before",
            "near 0 0", "bytes 0 20", "issue 2 1 1 9 1", "near 0 0", "bytes 0 10", "bytes 1 1", "issue 1 2 1 9 1",
            "miss 0 3", "minute = 4", "screen 0 = nothing", "miss 0 3", "minute = 4", "screen 0 = nothing",
            "minute = 4", "shown 0 0 0 = 1", "shown 0 1 0 = 2");
        tell("pages of another language do not count",
            "likes 0 1", "area 0 0 9 0 0 9", "bytes 0 1", "bytes 1 1", "bytes 2 1", "issue 1 1 1 9 9", "miss 0 2",
            "minute = 3", "screen 0 = nothing");
        tell("pages are held over minutes and other cells",
            "cell 500 0 1", "near 0 0", "bytes 0 11", "issue 1 1 1 20 1", "miss 0 1", "minute = 2",
            "screen 0 = nothing", "camp 0 1", "3 x minute = 2", "camp 0 0", "minute = 2",
            "screen 0 = 1.1/0@5=abcdefghijk!");
    }

    private static void holdsPagesOfThisVersion() {
        tell("pages of the version before do not count",
            "near 0 0", "bytes 0 11", "issue 1 1 1 9 1", "miss 0 1", "minute = 2", "near 0 0", "bytes 0 11",
            "update 1 1 9 1", "miss 0 1", "minute = 2", "screen 0 = nothing", "minute = 2",
            "screen 0 = 1.2/0@3=abcdefghijk!");
        tell("pages of another warning do not count",
            "near 0 0", "bytes 0 11", "issue 1 1 1 9 9", "near 0 0", "bytes 0 11", "issue 2 1 1 9 9", "miss 0 1",
            "minute = 4", "screen 0 = 2.1/0@1=abcdefghijk!");
        tell("a version of which just one page was heard is not shown when a newer one is",
            "near 0 0", "bytes 0 11", "issue 1 1 1 9 1", "miss 0 1", "minute = 2", "near 0 0", "bytes 1 1",
            "update 1 1 9 1", "minute = 1", "screen 0 = 1.2/1@2=a!");
    }

    private static void olderPagesDoNothing() {
        tell("pages of older ones do nothing: behind an update",
            "cell 0 0 1", "near 0 0", "bytes 0 11", "issue 1 1 1 20 1", "miss 0 1", "minute = 4", "line 0 cut",
            "near 0 0", "bytes 1 1", "update 1 1 20 1", "camp 0 1", "minute = 3", "screen 0 = 1.2/1@2=a!", "camp 0 0",
            "minute = 3", "minute = 3", "screen 0 = 1.2/1@2=a!");
        tell("pages of older ones do nothing: behind one page of an update, which is whole later",
            "cell 0 0 1", "near 0 0", "bytes 0 1", "issue 1 1 1 20 1", "camp 0 NONE", "minute = 2", "line 0 cut",
            "near 0 0", "bytes 1 11", "update 1 1 20 1", "camp 0 1", "miss 0 1", "minute = 3", "screen 0 = nothing",
            "camp 0 0", "minute = 3", "screen 0 = nothing", "camp 0 1", "minute = 3",
            "screen 0 = 1.2/1@4=abcdefghijk!");
        tell("pages of older ones do nothing: behind a cancel",
            "cell 0 0 1", "near 0 0", "bytes 0 1", "issue 1 1 1 20 1", "camp 0 NONE", "minute = 2", "line 0 cut",
            "cancel 1", "camp 0 1", "minute = 2", "camp 0 0", "minute = 2", "pages 0 = 1.1/0.0:1", "screen 0 = nothing",
            "total 10 = 0");
        tell("a page that does nothing is missed all the same",
            "cell 0 0 1", "near 0 0", "bytes 0 1", "issue 1 1 1 20 1", "minute = 2", "line 0 cut", "cancel 1",
            "camp 0 1", "minute = 2", "camp 0 0", "miss 0 2", "minute = 2", "miss 0 0 = 1");
    }

    private static void showsOnce() {
        tell("if it did not show that version yet",
            "near 0 0", "bytes 0 2", "issue 1 3 1 9 1", "5 x minute", "screen 0 = 1.1/0@1=ab!", "total 10 = 1");
        tell("if it did not show that version yet: in another language neither",
            "near 0 0", "bytes 0 2", "bytes 1 2", "bytes 2 2", "issue 1 3 1 9 1", "minute = 3", "likes 0 2",
            "minute = 3", "shown 0 0 2 = 0", "shown 0 1 2 ! bounds", "total 10 = 1");
        tell("if it did not show that version yet: at another cell neither",
            "cell 0 0 1", "near 0 0", "bytes 0 2", "issue 1 3 1 9 1", "minute = 2", "camp 0 1", "minute = 2",
            "screen 0 = 1.1/0@1=ab!", "total 10 = 1");
        tell("each version is shown, the same text too",
            "near 0 0", "bytes 0 2", "issue 1 3 1 9 1", "minute = 1", "near 0 0", "bytes 0 2", "update 1 3 9 1",
            "minute = 1", "screen 0 = 1.1/0@1=ab 1.2/0@2=ab!", "total 10 = 2");
        Story.tell("each handset shows for itself",
            "cell 0 0 1", "handset 0", "handset 0", "camp 0 0", "camp 1 0", "miss 1 1", "near 0 0", "bytes 0 2",
            "issue 1 3 1 9 1", "minute = 1", "screen 0 = 1.1/0@1=ab!", "screen 1 = nothing", "minute = 1",
            "screen 1 = 1.1/0@2=ab!");
    }

    private static void showsInTheirOrder() {
        tell("each handset goes through the pages of its cell in their order",
            "near 0 0", "bytes 0 1", "issue 1 1 1 9 1", "near 0 0", "bytes 0 2", "issue 2 5 1 9 1", "near 0 0",
            "bytes 0 3", "issue 3 5 1 9 1", "minute = 3", "screen 0 = 2.1/0@1=ab! 3.1/0@1=abc! 1.1/0@1=a!");
    }

    private static void alarms() {
        for (int threshold = 0; threshold <= 5; threshold++) {
            List<String> rows = new ArrayList<>(List.of("cell 0 0 1", "handset " + threshold, "camp 0 0"));
            for (int severity = 1; severity <= 5; severity++) {
                rows.addAll(List.of("area 0 0 9 0 0 9", "text 0 1", "issue " + severity + " " + severity + " "
                    + severity + " 90 1"));
            }
            int alarms = 0;
            for (int severity = 1; severity <= 5; severity++) {
                alarms += severity >= threshold ? 1 : 0;
                rows.addAll(List.of("minute = " + severity, "total 10 = " + alarms));
            }
            rows.addAll(List.of("minute = 5", "total 10 = " + alarms, "total 11 = NONE"));
            Story.tell("if its severity is the threshold or more, that is an ALARM: " + threshold,
                rows.toArray(new String[0]));
        }
        tell("a cancel is no alarm",
            "near 0 0", "bytes 0 2", "issue 1 5 1 9 1", "minute = 1", "total 10 = 1", "cancel 1", "minute = 1",
            "total 10 = 1", "shown 0 1 0 ! bounds");
        tell("the severity of the version that is shown counts",
            "near 0 0", "bytes 0 2", "issue 1 2 1 9 1", "minute = 1", "total 10 = 0", "near 0 0", "bytes 0 2",
            "update 1 3 9 1", "minute = 1", "total 10 = 1", "near 0 0", "bytes 0 2", "update 1 2 9 1", "minute = 1",
            "total 10 = 1");
        tell("the severity of the version that is shown counts: not the greater one of a newer version",
            "near 0 0", "bytes 0 2", "issue 1 2 1 9 1", "camp 0 NONE", "minute = 1", "line 0 cut", "near 0 0",
            "bytes 0 2", "update 1 5 9 1", "camp 0 0", "minute = 1", "screen 0 = 1.1/0@2=ab!", "total 10 = 0");
        tell("the severity of the version that is shown counts: not the lesser one of a newer version",
            "near 0 0", "bytes 0 2", "issue 1 3 1 9 1", "camp 0 NONE", "minute = 1", "line 0 cut", "near 0 0",
            "bytes 0 2", "update 1 1 9 1", "camp 0 0", "minute = 1", "screen 0 = 1.1/0@2=ab!", "total 10 = 1");
    }

    private static void currentUntilItsEnd() {
        tell("CURRENT (its end is greater than the clock): the minute before, and the end",
            "near 0 0", "bytes 0 1", "issue 1 1 1 4 1", "minute = 1", "shown 0 0 4 = 1", "minute = 1", "minute = 1",
            "shown 0 0 4 = 1", "minute = 0", "shown 0 0 4 = 0", "minute = 0", "shown 0 0 4 = 0");
        tell("CURRENT: shown in its last minute",
            "near 0 0", "bytes 0 1", "issue 1 1 1 2 1", "minute = 1", "shown 0 0 4 = 1", "minute = 0",
            "shown 0 0 4 = 0");
        tell("CURRENT: the end of the version that was shown, not of the newest",
            "near 0 0", "bytes 0 1", "issue 1 1 1 3 1", "minute = 1", "camp 0 NONE", "near 0 0", "bytes 0 1",
            "update 1 1 9 1", "minute = 1", "shown 0 0 4 = 1", "minute = 1", "shown 0 0 4 = 0");
        tell("CURRENT: with the latest end",
            "near 0 0", "bytes 0 1", "issue 1 1 1 MAX 1", "minute = 1", "shown 0 0 4 = 1");
    }

    private static void currentUntilANewerPage() {
        tell("and the handset heard no page of a newer one: one page is enough",
            "near 0 0", "bytes 0 1", "issue 1 1 1 9 1", "minute = 1", "near 0 0", "bytes 0 11", "update 1 1 9 1",
            "screen 0 = 1.1/0@1=a!", "miss 0 1", "minute = 2", "screen 0 = 1.1/0@1=a");
        tell("and the handset heard no page of a newer one: all are missed",
            "near 0 0", "bytes 0 1", "issue 1 1 1 9 1", "minute = 1", "near 0 0", "bytes 0 11", "update 1 1 9 1",
            "miss 0 2", "minute = 2", "screen 0 = 1.1/0@1=a!");
        tell("and the handset heard no page of a newer one: a cancel",
            "near 0 0", "bytes 0 1", "issue 1 1 1 9 1", "minute = 1", "cancel 1", "screen 0 = 1.1/0@1=a!",
            "minute = 1", "screen 0 = 1.1/0@1=a");
        tell("and the handset heard no page of a newer one: of another warning it does not count",
            "near 0 0", "bytes 0 1", "issue 1 1 1 9 1", "minute = 1", "near 0 0", "bytes 0 1", "issue 2 1 2 9 1",
            "minute = 2", "cancel 2", "minute = 2", "screen 0 = 1.1/0@1=a! 2.1/0@2=a");
    }

    private static void mostShown() {
        List<String> rows = new ArrayList<>(CAMPED);
        for (int n = 1; n <= 40; n++) {
            rows.add("area 0 0 9 0 0 9");
            rows.add("text 0 " + n);
            rows.add(n == 1 ? "issue 1 3 1 900 1" : "update 1 3 900 1");
            rows.add("minute = 1");
        }
        rows.addAll(List.of("total 10 = 40", "shown 0 0 1 = 1", "shown 0 0 4 = 0", "shown 0 38 4 = 0",
            "shown 0 39 1 = 40", "shown 0 39 3 = 40", "shown 0 39 4 = 1", "shownByte 0 39 0 = 40",
            "shown 0 40 1 ! bounds", "shownByte 0 40 0 ! bounds"));
        Story.tellWithoutQuestions("a handset showed 40 versions", rows.toArray(new String[0]));
        List<String> many = new ArrayList<>(CAMPED);
        for (int id = 12; id >= 1; id--) {
            many.addAll(List.of("area 0 0 9 0 0 9", "text 0 " + id, "issue " + id + " 3 1 900 1"));
        }
        many.addAll(List.of("minute = 12", "total 10 = 12", "shown 0 0 0 = 1", "shown 0 11 0 = 12",
            "shownByte 0 11 0 = 12", "shown 0 12 0 ! bounds"));
        Story.tell("a handset showed 12 warnings in a minute", many.toArray(new String[0]));
    }

    private static void shownBounds() {
        Story.tell("shown: IndexOutOfBounds: there is no such handset",
            "shown 0 0 0 ! bounds", "cell 0 0 1", "handset 0", "camp 0 0", "near 0 0", "bytes 0 1", "issue 1 1 1 9 1",
            "minute = 1", "shown 0 0 0 = 1", "shown 1 0 0 ! bounds", "shown -1 0 0 ! bounds", "shown MAX 0 0 ! bounds",
            "shown MIN 0 0 ! bounds");
        tell("shown: IndexOutOfBounds: there is no such version",
            "shown 0 0 0 ! bounds", "near 0 0", "bytes 0 1", "issue 1 1 1 9 1", "near 0 0", "bytes 0 1",
            "issue 2 1 1 9 1", "shown 0 0 0 ! bounds", "minute = 2", "shown 0 -1 0 ! bounds", "shown 0 0 0 = 1",
            "shown 0 1 0 = 2", "shown 0 2 0 ! bounds", "shown 0 MAX 0 ! bounds", "shown 0 MIN 0 ! bounds");
        tell("shown: id (0), number (1), language (2), minute (3), current (4), bytes (5); another what",
            "minute = 0", "near 0 0", "bytes 2 13", "issue 77 4 3 9 1", "near 0 0", "bytes 2 13", "update 77 4 9 1",
            "minute = 2", "shown 0 0 -1 ! argument", "shown 0 0 0 = 77", "shown 0 0 1 = 2", "shown 0 0 2 = 2",
            "shown 0 0 3 = 2", "shown 0 0 4 = 1", "shown 0 0 5 = 13", "shown 0 0 6 ! argument",
            "shown 0 0 MAX ! argument", "shown 0 0 MIN ! argument");
    }

    private static void shownByteBounds() {
        Story.tell("shownByte: IndexOutOfBounds: there is no such handset",
            "shownByte 0 0 0 ! bounds", "cell 0 0 1", "handset 0", "camp 0 0", "near 0 0", "bytes 0 1",
            "issue 1 1 1 9 1", "minute = 1", "shownByte 0 0 0 = 97", "shownByte 1 0 0 ! bounds",
            "shownByte -1 0 0 ! bounds", "shownByte MAX 0 0 ! bounds", "shownByte MIN 0 0 ! bounds");
        tell("shownByte: IndexOutOfBounds: there is no such version",
            "shownByte 0 0 0 ! bounds", "near 0 0", "bytes 0 1", "issue 1 1 1 9 1", "minute = 1",
            "shownByte 0 -1 0 ! bounds", "shownByte 0 0 0 = 97", "shownByte 0 1 0 ! bounds",
            "shownByte 0 MAX 0 ! bounds", "shownByte 0 MIN 0 ! bounds");
        tell("shownByte: IndexOutOfBounds: there is no such byte: of a text of 1",
            "near 0 0", "text 0 5", "issue 1 1 1 9 1", "minute = 1", "shownByte 0 0 -1 ! bounds",
            "shownByte 0 0 0 = 5", "shownByte 0 0 1 ! bounds", "shownByte 0 0 MAX ! bounds",
            "shownByte 0 0 MIN ! bounds");
        tell("shownByte: IndexOutOfBounds: there is no such byte: of a text of 30",
            "near 0 0", "bytes 0 29", "text 0 200", "issue 1 1 1 9 1", "minute = 3", "shownByte 0 0 -1 ! bounds",
            "shownByte 0 0 0 = 97", "shownByte 0 0 9 = 106", "shownByte 0 0 10 = 107", "shownByte 0 0 19 = 116",
            "shownByte 0 0 20 = 117", "shownByte 0 0 29 = 200", "shownByte 0 0 30 ! bounds");
        tell("shownByte: of the language that was shown, not of a longer one",
            "likes 0 1", "near 0 0", "bytes 0 30", "bytes 1 2", "bytes 2 30", "issue 1 1 1 9 1", "minute = 7",
            "shownByte 0 0 1 = 98", "shownByte 0 0 2 ! bounds");
    }

    private static void totals() {
        Story.tell("NONE for another what: no handset",
            "total -1 = NONE", "total 0 = 0", "total 4 = 0", "total 5 = NONE", "total 9 = NONE", "total 10 = NONE",
            "total MAX = NONE", "total MIN = NONE");
        Story.tell("10 + h: one handset",
            "handset 0", "total 9 = NONE", "total 10 = 0", "total 11 = NONE", "total 12 = NONE", "total 13 = NONE");
        Story.tell("10 + h: three handsets",
            "handset 0", "handset 0", "handset 0", "total 9 = NONE", "total 10 = 0", "total 11 = 0", "total 12 = 0",
            "total 13 = NONE", "total 14 = NONE");
        Story.tell("each handset's alarms",
            "cell 0 0 1", "handset 4", "handset 5", "handset 0", "camp 0 0", "camp 1 0", "camp 2 0", "near 0 0",
            "text 0 1", "issue 1 4 1 9 1", "near 0 0", "text 0 1", "issue 2 3 1 9 1", "minute = 2", "total 10 = 1",
            "total 11 = 0", "total 12 = 2");
        Story.tell("The clock (0), how many cells (1), warnings (2), versions (3), handsets (4) there are",
            "5 x minute", "4 x cell 0 0 1", "near 0 0", "text 0 1", "issue 1 1 6 9 1", "near 0 0", "text 0 1",
            "issue 2 1 6 9 1", "cancel 2 = 2", "handset 0", "total 0 = 5", "total 1 = 4", "total 2 = 2", "total 3 = 3",
            "total 4 = 1", "total 5 = NONE");
    }
}
