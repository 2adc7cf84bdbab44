import java.util.ArrayList;
import java.util.List;

/** The 21 promises: every sentence in its order, and no words of it without a story (see Telling). */
public final class PromisesTest {
    private static final String TYPED = "area 0 0 9 0 0 9";
    /** A cell, and a handset that camps there. */
    private static final List<String> CAMPED = List.of("cell 0 0 1", "handset 3", "camp 0 0");
    private static final List<String> TOLD = new ArrayList<>();

    private static Telling promise;

    public static void main(String[] args) {
        aNewObject();
        cell();
        corner();
        text();
        clear();
        issue();
        issueIsRefused();
        update();
        updateIsRefused();
        cancel();
        minute();
        line();
        handset();
        likes();
        camp();
        miss();
        covers();
        version();
        listed();
        sent();
        shown();
        shownByte();
        total();
        promise.finish();
        List<String> due = new ArrayList<>(Document.sections());
        due.removeIf(section -> !section.startsWith("Promise "));
        Check.same("promises", String.join(", ", due), String.join(", ", TOLD));
        Check.finish();
    }

    private static void promise(String section) {
        if (promise != null) {
            promise.finish();
        }
        TOLD.add(section);
        promise = new Telling(section);
    }

    private static void story(String words, List<String> first, String... more) {
        List<String> all = new ArrayList<>(first);
        all.addAll(List.of(more));
        promise.story(words, all.toArray(new String[0]));
    }

    private static void aNewObject() {
        promise("Promise 1: A new object");
        promise.sentence("The clock shows 0; there are no cells, warnings or handsets; nothing is typed.");
        promise.story("The clock shows 0;", "total 0 = 0");
        promise.story("there are no cells, warnings or handsets;",
            "total 1 = 0", "total 2 = 0", "total 3 = 0", "total 4 = 0", "total 10 = NONE", "line 0 whole ! bounds",
            "listed 0 0 0 ! bounds", "sent 0 0 0 ! bounds", "version 1 = 0", "cancel 1 ! state", "likes 0 0 ! bounds",
            "shown 0 0 0 ! bounds", "minute = 0", "cell 0 0 1 = 0", "handset 0 = 0");
        promise.story("nothing is typed.",
            "clear = 0", "issue 1 1 1 9 1 ! unsupported", "corner 0 0 = 1", "text 0 0 = 1", "text 1 0 = 1",
            "text 2 0 = 1");
    }

    private static void cell() {
        promise("Promise 2: cell");
        promise.sentence("A cell is made: its number.");
        promise.story("A cell is made: its number.",
            "cell 5 5 9 = 0", "total 1 = 1", "cell 5 5 9 = 1", "total 1 = 2", "line 1 whole = yes",
            "line 2 whole ! bounds");
        promise.sentence("IllegalArgument: a coordinate or the radius is not as told; IllegalState: there are 8.");
        promise.story("IllegalArgument: a coordinate or the radius is not as told;",
            "cell 1001 0 1 ! argument", "cell -1001 0 1 ! argument", "cell 0 1001 1 ! argument",
            "cell 0 -1001 1 ! argument", "cell 0 0 0 ! argument", "cell 0 0 2001 ! argument", "cell MAX 0 1 ! argument",
            "cell 0 MIN 1 ! argument", "cell 0 0 MIN ! argument", "cell 0 0 MAX ! argument", "total 1 = 0",
            "cell 1000 1000 2000 = 0", "cell -1000 -1000 1 = 1");
        promise.story("IllegalState: there are 8.",
            "7 x cell 0 0 1", "cell 0 0 1 = 7", "cell 0 0 1 ! state", "cell 5 5 5 ! state", "total 1 = 8");
    }

    private static void corner() {
        promise("Promise 3: corner");
        promise.sentence("A corner is typed: how many there are.");
        promise.story("A corner is typed: how many there are.",
            "corner 0 0 = 1", "corner 0 0 = 2", "text 0 0", "corner 9 0 = 3", "clear = 4", "corner 1 1 = 1");
        promise.sentence("IllegalArgument: a coordinate is not as told; IllegalState: there are 8.");
        promise.story("IllegalArgument: a coordinate is not as told;",
            "corner 1001 0 ! argument", "corner -1001 0 ! argument", "corner 0 1001 ! argument",
            "corner 0 -1001 ! argument", "corner MIN 0 ! argument", "corner 0 MAX ! argument", "corner -1000 1000 = 1",
            "corner 1000 -1000 = 2");
        promise.story("IllegalState: there are 8.",
            "7 x corner 0 0", "corner 0 0 = 8", "corner 0 0 ! state", "clear = 8", "corner 0 0 = 1");
    }

    private static void text() {
        promise("Promise 4: text");
        promise.sentence("A byte is typed, behind a language's text: how many it has.");
        promise.story("A byte is typed, behind a language's text: | in each language",
            "cell 0 0 1", "handset 0", "camp 0 0", TYPED, "text 1 120", "text 1 121", "text 0 97", "text 1 122",
            "text 0 98", "likes 0 1", "issue 1 1 1 9 1", "minute = 2", "screen 0 = 1.1/1@1=xyz!");
        promise.story("how many it has.",
            "text 1 0 = 1", "text 1 0 = 2", "text 0 9 = 1", "corner 0 0", "text 1 8 = 3", "text 2 255 = 1", "text 0 9 = 2");
        promise.sentence("IllegalArgument: language is not 0 .. 2, or value not 0 .. 255; IllegalState: there are 30.");
        promise.story("IllegalArgument: language is not 0 .. 2,",
            "text -1 0 ! argument", "text 3 0 ! argument", "text MIN 0 ! argument", "text MAX 0 ! argument",
            "text 0 0 = 1", "text 2 0 = 1");
        promise.story("or value not 0 .. 255;",
            "text 0 -1 ! argument", "text 0 256 ! argument", "text 0 MIN ! argument", "text 0 MAX ! argument",
            "text 0 0 = 1", "text 0 255 = 2");
        promise.story("IllegalState: there are 30.",
            "bytes 2 29", "text 2 0 = 30", "text 2 0 ! state", "text 1 0 = 1", "clear = 31", "text 2 0 = 1");
    }

    private static void clear() {
        promise("Promise 5: clear");
        promise.sentence("Nothing is typed any more: how many corners and bytes there were in all.");
        promise.story("Nothing is typed any more:",
            "cell 0 0 1", "near 500 0", "bytes 1 30", "clear", "issue 1 1 1 9 1 ! unsupported", TYPED,
            "issue 1 1 1 9 1 ! unsupported", "text 0 1 = 1", "issue 1 1 1 9 1 = 1", "minute = 1", "pages 0 = 1.1/0.0:1");
        promise.story("how many corners and bytes there were in all.",
            "clear = 0", "corner 0 0", "clear = 1", "text 2 0", "clear = 1", "8 x corner 0 0", "bytes 0 30", "bytes 1 30",
            "bytes 2 30", "clear = 98", "clear = 0", TYPED, "text 0 1", "issue 1 1 1 9 1", "clear = 0");
    }

    private static void issue() {
        promise("Promise 6: issue");
        promise.sentence("A warning is made, with a first version of what is typed (nothing is typed then): how many "
            + "cells it covers.");
        promise.story("A warning is made, with a first version of what is typed",
            "cell 0 0 1", "near 0 0", "bytes 0 11", "issue 9 4 2 7 3 = 1", "total 2 = 1", "total 3 = 1", "version 9 = 1",
            "minute = 0", "list 0 = 9.1", "listed 0 0 2 = 4", "listed 0 0 3 = 7", "listed 0 0 4 = 1", "minute = 2",
            "pages 0 = 9.1/0.0:10 9.1/0.1:1", "minute = 0", "minute = 0", "minute = 2", "minute = 0", "list 0 = 9.1",
            "minute = 0", "list 0 = nothing");
        promise.story("(nothing is typed then):",
            TYPED, "bytes 0 1", "bytes 1 2", "bytes 2 3", "issue 1 1 1 9 1 = 0", "clear = 0",
            "issue 2 1 1 9 1 ! unsupported", "corner 1 1 = 1", "text 0 1 = 1", "text 1 1 = 1", "text 2 1 = 1");
        promise.story("how many cells it covers.",
            TYPED, "text 0 1", "issue 1 1 1 9 1 = 0", "7 x cell 0 0 1", "cell 500 0 1", "near 0 0", "text 0 1",
            "issue 2 1 1 9 1 = 7", "near 500 0", "text 0 1", "issue 3 1 1 9 1 = 1", "area -5 -5 505 -5 505 5 -5 5",
            "text 0 1", "issue 4 1 1 9 1 = 8");
    }

    private static void issueIsRefused() {
        promise.sentence("IllegalArgument: id, severity or span is not as told, begin is not above the clock, or end "
            + "not above begin; UnsupportedOperation: the area is not simple, or no language is offered; IllegalState: "
            + "the id was used, or there are 12 warnings or 40 versions.");
        promise.story("IllegalArgument: id, severity or span is not as told,",
            TYPED, "text 0 1", "issue 0 1 1 9 1 ! argument", "issue 1001 1 1 9 1 ! argument",
            "issue MIN 1 1 9 1 ! argument", "issue 1 0 1 9 1 ! argument", "issue 1 6 1 9 1 ! argument",
            "issue 1 MAX 1 9 1 ! argument", "issue 1 1 1 9 0 ! argument", "issue 1 1 1 9 1001 ! argument",
            "issue 1 1 1 9 MIN ! argument", "total 2 = 0", "issue 1000 5 1 9 1000 = 0");
        promise.story("begin is not above the clock,",
            "2 x minute", TYPED, "text 0 1", "issue 1 1 2 9 1 ! argument", "issue 1 1 1 9 1 ! argument",
            "issue 1 1 -3 9 1 ! argument", "issue 1 1 MIN 9 1 ! argument", "issue 1 1 3 9 1 = 0");
        promise.story("or end not above begin;",
            TYPED, "text 0 1", "issue 1 1 4 4 1 ! argument", "issue 1 1 4 3 1 ! argument", "issue 1 1 4 MIN 1 ! argument",
            "issue 1 1 MAX MAX 1 ! argument", "issue 1 1 4 5 1 = 0", TYPED, "text 0 1", "issue 2 1 MAX-1 MAX 1 = 0");
        promise.story("UnsupportedOperation: the area is not simple,",
            "text 0 1", "area 0 0 9 0", "issue 1 1 1 9 1 ! unsupported", "corner 18 0", "issue 1 1 1 9 1 ! unsupported",
            "corner 9 -9", "issue 1 1 1 9 1 = 0", "text 0 1", "area 0 0 9 9 9 0 0 9", "issue 2 1 1 9 1 ! unsupported",
            "total 2 = 1");
        promise.story("or no language is offered;",
            TYPED, "issue 1 1 1 9 1 ! unsupported", "text 2 0", "issue 1 1 1 9 1 = 0");
        promise.story("IllegalState: the id was used,",
            TYPED, "text 0 1", "issue 6 1 1 2 1", TYPED, "text 0 1", "issue 6 1 1 2 1 ! state", "2 x minute",
            "issue 6 1 3 9 1 ! state", "clear = 4", TYPED, "text 0 1", "issue 7 1 3 9 1 = 0");
        story("or there are 12 warnings or 40 versions. | 12 warnings", warnings(11), TYPED, "text 0 1",
            "issue 1000 1 1 9 1 = 0", TYPED, "text 0 1", "issue 999 1 1 9 1 ! state", "total 2 = 12", "total 3 = 12");
        story("or there are 12 warnings or 40 versions. | 40 versions", versions(39), TYPED, "text 0 1",
            "issue 1000 1 1 9 1 = 0", TYPED, "text 0 1", "issue 999 1 1 9 1 ! state", "total 2 = 2", "total 3 = 40");
    }

    private static List<String> warnings(int count) {
        List<String> rows = new ArrayList<>();
        for (int id = 1; id <= count; id++) {
            rows.addAll(List.of(TYPED, "text 0 1", "issue " + id + " 1 1 9 1"));
        }
        return rows;
    }

    private static List<String> versions(int count) {
        List<String> rows = warnings(1);
        for (int n = 2; n <= count; n++) {
            rows.addAll(List.of(TYPED, "text 0 1", "update 1 1 9 1"));
        }
        return rows;
    }

    private static void update() {
        promise("Promise 7: update");
        promise.sentence("A live warning gets a next version of what is typed (nothing is typed then), whose beginning "
            + "is the next minute (the clock and 1): how many cells it covers.");
        promise.story("A live warning gets a next version of what is typed",
            "cell 0 0 1", "near 0 0", "bytes 0 1", "issue 9 4 1 7 1", "minute = 1", "near 0 0", "bytes 1 2", "bytes 2 12",
            "update 9 2 5 2 = 1", "version 9 = 2", "total 2 = 1", "total 3 = 2", "minute = 3", "list 0 = 9.2",
            "listed 0 0 2 = 2", "listed 0 0 3 = 5", "listed 0 0 4 = 1", "pages 0 = 9.2/1.0:2 9.2/2.0:10 9.2/2.1:2",
            "minute = 0", "minute = 3", "minute = 0", "list 0 = nothing");
        promise.story("(nothing is typed then),",
            TYPED, "bytes 0 1", "issue 1 1 1 9 1", TYPED, "bytes 1 2", "bytes 2 3", "update 1 1 9 1 = 0", "clear = 0",
            "update 1 1 9 1 ! unsupported", "corner 1 1 = 1", "text 0 1 = 1", "text 1 1 = 1", "text 2 1 = 1");
        promise.story("whose beginning is the next minute (the clock and 1):",
            "cell 0 0 1", TYPED, "bytes 0 1", "issue 1 1 9 20 1", "minute = 0", "minute = 0", TYPED, "bytes 0 1",
            "update 1 1 20 3", "minute = 1", "minute = 0", "minute = 0", "minute = 1", "minute = 0");
        promise.story("how many cells it covers.",
            TYPED, "text 0 1", "issue 1 1 1 9 1 = 0", "cell 0 0 1", "cell 0 0 1", "cell 500 0 1", "near 0 0", "text 0 1",
            "update 1 1 9 1 = 2", "near 500 0", "text 0 1", "update 1 1 9 1 = 1", "near 900 0", "text 0 1",
            "update 1 1 9 1 = 0", "area -5 -5 505 -5 505 5 -5 5", "text 0 1", "update 1 1 9 1 = 3");
    }

    private static void updateIsRefused() {
        promise.sentence("IllegalArgument: severity or span is not as told, or end not above its beginning; "
            + "UnsupportedOperation: the area is not simple, or no language is offered; IllegalState: there is no live "
            + "warning with the id, or there are 40 versions.");
        List<String> issued = List.of(TYPED, "text 0 1", "issue 1 3 1 9 1");
        story("IllegalArgument: severity or span is not as told,", issued,
            TYPED, "text 0 1", "update 1 0 9 1 ! argument", "update 1 6 9 1 ! argument", "update 1 MIN 9 1 ! argument",
            "update 1 1 9 0 ! argument", "update 1 1 9 1001 ! argument", "update 1 1 9 MAX ! argument",
            "version 1 = 1", "update 1 5 9 1000 = 0");
        story("or end not above its beginning;", issued,
            "3 x minute", TYPED, "text 0 1", "update 1 1 4 1 ! argument", "update 1 1 3 1 ! argument",
            "update 1 1 0 1 ! argument", "update 1 1 MIN 1 ! argument", "update 1 1 5 1 = 0", TYPED, "text 0 1",
            "update 1 1 MAX 1 = 0");
        story("UnsupportedOperation: the area is not simple,", issued,
            "text 0 1", "update 1 1 9 1 ! unsupported", "area 0 0 9 9 9 0 0 9", "update 1 1 9 1 ! unsupported",
            "clear = 5", "text 0 1", "area 0 0 9 0 0 9 0 0", "update 1 1 9 1 ! unsupported", "version 1 = 1");
        story("or no language is offered;", issued,
            TYPED, "update 1 1 9 1 ! unsupported", "text 1 0", "update 1 1 9 1 = 0");
        story("IllegalState: there is no live warning with the id,", issued,
            TYPED, "text 0 1", "update 2 1 9 1 ! state", "update 0 1 9 1 ! state", "update MIN 1 9 1 ! state",
            "8 x minute", "update 1 1 99 1 = 0", "version 1 = 2");
        story("IllegalState: there is no live warning with the id, | it has ended", issued,
            TYPED, "text 0 1", "9 x minute", "update 1 1 99 1 ! state", "version 1 = 1");
        story("IllegalState: there is no live warning with the id, | it is cancelled", issued,
            TYPED, "text 0 1", "cancel 1", "update 1 1 99 1 ! state", "version 1 = 2");
        story("or there are 40 versions.", versions(39), TYPED, "text 0 1", "update 1 1 9 1 = 0", TYPED, "text 0 1",
            "update 1 1 9 1 ! state", "version 1 = 40", "total 3 = 40");
    }

    private static void cancel() {
        promise("Promise 8: cancel");
        promise.sentence("A live warning gets a next version, a cancel: its number.");
        promise.story("A live warning gets a next version, a cancel: its number.",
            "cell 0 0 1", TYPED, "text 0 1", "issue 1 4 1 9 1", TYPED, "text 0 1", "issue 2 1 1 9 1", "minute = 2",
            "cancel 1 = 2", "version 1 = 2", "total 2 = 2", "total 3 = 3", TYPED, "text 0 1", "update 2 1 9 1",
            "cancel 2 = 3", "version 2 = 3", "minute = 2", "list 0 = -1.2 -2.3", "listed 0 0 2 = 4", "listed 0 0 3 = 9");
        promise.story("A live warning gets a next version, a cancel: its number. | what is typed stays",
            TYPED, "text 0 1", "issue 1 4 1 9 1", TYPED, "text 2 1", "cancel 1 = 2", "clear = 4");
        promise.sentence("IllegalState: there is no live warning with the id, or there are 40 versions.");
        promise.story("IllegalState: there is no live warning with the id,",
            "cancel 1 ! state", TYPED, "text 0 1", "issue 1 4 1 3 1", TYPED, "text 0 1", "issue 2 4 1 4 1",
            "cancel 3 ! state", "cancel 0 ! state", "cancel MAX ! state", "3 x minute", "cancel 1 ! state",
            "cancel 2 = 2", "cancel 2 ! state", "version 1 = 1", "total 3 = 3");
        story("or there are 40 versions.", versions(39), "cancel 1 = 40");
        story("or there are 40 versions. | there are", versions(40), "cancel 1 ! state", "version 1 = 40",
            "total 3 = 40");
    }

    private static void minute() {
        promise("Promise 9: minute");
        promise.sentence("A minute goes by: how many pages all cells sent in it.");
        promise.story("A minute goes by:", "total 0 = 0", "minute", "total 0 = 1", "minute", "minute", "total 0 = 3");
        promise.story("how many pages all cells sent in it.",
            "minute = 0", "cell 0 0 1", "cell 0 0 1", "cell 500 0 1", "minute = 0", "near 0 0", "bytes 0 30", "bytes 2 1",
            "issue 1 1 3 9 2 = 2", "near 500 0", "bytes 1 11", "issue 2 1 4 9 1 = 1", "minute = 8", "minute = 2",
            "minute = 10", "cancel 1", "minute = 4", "line 2 cut", "cancel 2", "minute = 4", "minute = 4", "minute = 0");
    }

    private static void line() {
        promise("Promise 10: line");
        promise.sentence("A cell's line is whole or cut from now on: whether it was whole.");
        promise.story("A cell's line is whole or cut from now on:",
            "cell 0 0 1", "cell 0 0 1", TYPED, "text 0 1", "issue 1 1 1 9 1", "line 0 cut", "minute = 1",
            "list 0 = nothing", "list 1 = 1.1", "minute = 1", "line 0 whole", "list 0 = nothing", "minute = 2",
            "list 0 = 1.1", "line 1 cut", "cancel 1", "minute = 2", "list 0 = -1.2", "list 1 = 1.1");
        promise.story("whether it was whole.",
            "cell 0 0 1", "cell 0 0 1", "line 0 whole = yes", "line 0 cut = yes", "line 0 cut = no", "line 1 cut = yes",
            "minute", "line 0 whole = no", "line 0 whole = yes", "line 1 whole = no");
        promise.sentence("IndexOutOfBounds: there is no such cell.");
        promise.story("IndexOutOfBounds: there is no such cell.",
            "line 0 whole ! bounds", "cell 0 0 1", "line 1 cut ! bounds", "line -1 cut ! bounds", "line MIN cut ! bounds",
            "line MAX whole ! bounds", "line 0 whole = yes");
    }

    private static void handset() {
        promise("Promise 11: handset");
        promise.sentence("A handset is made: its number.");
        promise.story("A handset is made: its number.",
            "handset 4 = 0", "total 4 = 1", "total 10 = 0", "total 11 = NONE", "handset 4 = 1", "total 4 = 2",
            "total 11 = 0", "camp 1 NONE = NONE", "camp 2 NONE ! bounds");
        promise.sentence("IllegalArgument: threshold is not 0 .. 5; IllegalState: there are 3.");
        promise.story("IllegalArgument: threshold is not 0 .. 5;",
            "handset -1 ! argument", "handset 6 ! argument", "handset MIN ! argument", "handset MAX ! argument",
            "total 4 = 0", "handset 0 = 0", "handset 5 = 1");
        promise.story("IllegalState: there are 3.",
            "handset 1", "handset 1", "handset 1 = 2", "handset 1 ! state", "handset 0 ! state", "total 4 = 3");
    }

    private static void likes() {
        promise("Promise 12: likes");
        promise.sentence("A handset likes a language, behind those that it likes: how many these are.");
        story("A handset likes a language, behind those that it likes:", CAMPED,
            "likes 0 2", "likes 0 1", TYPED, "text 0 97", "text 1 98", "text 2 99", "issue 1 1 1 9 1", TYPED,
            "text 0 97", "text 1 98", "issue 2 1 1 9 1", TYPED, "text 0 97", "issue 3 1 1 9 1", "minute = 6",
            "screen 0 = 1.1/2@1=c! 2.1/1@1=b! 3.1/0@1=a!");
        promise.story("how many these are.",
            "handset 0", "handset 0", "likes 0 0 = 1", "likes 0 0 = 2", "likes 1 2 = 1", "likes 0 1 = 3");
        promise.sentence("IndexOutOfBounds: there is no such handset; IllegalArgument: language is not 0 .. 2; "
            + "IllegalState: it likes 3.");
        promise.story("IndexOutOfBounds: there is no such handset;",
            "likes 0 0 ! bounds", "handset 0", "likes 1 0 ! bounds", "likes -1 0 ! bounds", "likes MAX 0 ! bounds",
            "likes MIN 9 ! bounds", "likes 0 0 = 1");
        promise.story("IllegalArgument: language is not 0 .. 2;",
            "handset 0", "likes 0 -1 ! argument", "likes 0 3 ! argument", "likes 0 MAX ! argument",
            "likes 0 MIN ! argument", "likes 0 0 = 1", "likes 0 2 = 2");
        promise.story("IllegalState: it likes 3.",
            "handset 0", "handset 0", "3 x likes 0 1", "likes 0 1 ! state", "likes 0 0 ! state", "likes 1 0 = 1");
    }

    private static void camp() {
        promise("Promise 13: camp");
        promise.sentence("A handset camps at a cell from now on (NONE: nowhere): where it camped.");
        promise.story("A handset camps at a cell from now on",
            "cell 0 0 1", "cell 500 0 1", "handset 0", "near 0 0", "text 0 97", "issue 1 1 1 9 1", "near 500 0",
            "text 0 98", "issue 2 1 1 9 1", "minute = 2", "camp 0 1", "screen 0 = nothing", "minute = 2",
            "screen 0 = 2.1/0@2=b!", "camp 0 0", "screen 0 = 2.1/0@2=b!", "minute = 2",
            "screen 0 = 2.1/0@2=b! 1.1/0@3=a!");
        story("(NONE: nowhere):", CAMPED,
            "near 0 0", "text 0 97", "issue 1 1 1 9 1", "camp 0 NONE", "minute = 1", "screen 0 = nothing", "camp 0 0",
            "minute = 1", "screen 0 = 1.1/0@2=a!");
        promise.story("where it camped.",
            "cell 0 0 1", "cell 0 0 1", "handset 0", "handset 0", "camp 0 1 = NONE", "camp 0 1 = 1", "camp 0 0 = 1",
            "camp 1 0 = NONE", "camp 0 NONE = 0", "camp 0 NONE = NONE", "camp 1 1 = 0");
        promise.sentence("IndexOutOfBounds: there is no such handset or cell.");
        promise.story("IndexOutOfBounds: there is no such handset or cell. | handset",
            "cell 0 0 1", "camp 0 0 ! bounds", "camp 0 NONE ! bounds", "handset 0", "camp 1 0 ! bounds",
            "camp 1 NONE ! bounds", "camp -1 0 ! bounds", "camp MIN 0 ! bounds", "camp MAX 0 ! bounds",
            "camp 0 0 = NONE");
        promise.story("IndexOutOfBounds: there is no such handset or cell. | cell",
            "handset 0", "camp 0 0 ! bounds", "cell 0 0 1", "camp 0 1 ! bounds", "camp 0 -2 ! bounds",
            "camp 0 MIN ! bounds", "camp 0 MAX ! bounds", "camp 0 0 = NONE", "camp 0 NONE = 0");
    }

    private static void miss() {
        promise("Promise 14: miss");
        promise.sentence("A handset is going to miss n pages more: how many in all.");
        story("A handset is going to miss n pages more:", CAMPED,
            TYPED, "bytes 0 11", "issue 1 1 1 9 1", "miss 0 1", "miss 0 2", "minute = 2", "screen 0 = nothing",
            "minute = 2", "screen 0 = nothing", "minute = 2", "screen 0 = 1.1/0@3=abcdefghijk!");
        promise.story("how many in all.",
            "handset 0", "handset 0", "miss 0 0 = 0", "miss 0 7 = 7", "miss 0 1000 = 1007", "miss 1 2 = 2",
            "miss 0 1000 = 2007", "miss 0 0 = 2007");
        promise.sentence("IndexOutOfBounds: there is no such handset; IllegalArgument: n is not 0 .. 1000.");
        promise.story("IndexOutOfBounds: there is no such handset;",
            "miss 0 0 ! bounds", "handset 0", "miss 1 0 ! bounds", "miss -1 0 ! bounds", "miss MAX 0 ! bounds",
            "miss MIN -1 ! bounds", "miss 0 1 = 1");
        promise.story("IllegalArgument: n is not 0 .. 1000.",
            "handset 0", "miss 0 -1 ! argument", "miss 0 1001 ! argument", "miss 0 MIN ! argument",
            "miss 0 MAX ! argument", "miss 0 0 = 0", "miss 0 1000 = 1000");
    }

    private static void covers() {
        promise("Promise 15: covers");
        promise.sentence("Whether the newest version of a warning that is spoken covers a cell.");
        promise.story("Whether the newest version of a warning that is spoken covers a cell.",
            "cell 0 0 1", "cell 500 0 1", "near 0 0", "text 0 1", "issue 1 1 5 9 1", "covers 1 0 = yes",
            "covers 1 1 = no", "near 500 0", "text 0 1", "update 1 1 9 1", "covers 1 0 = no", "covers 1 1 = yes",
            "cell 500 1 1", "covers 1 2 = yes", "line 1 cut", "covers 1 1 = yes", "9 x minute", "covers 1 1 = yes");
        promise.sentence("IndexOutOfBounds: there is no such cell; IllegalState: there is no such warning, or its "
            + "newest version is a cancel.");
        promise.story("IndexOutOfBounds: there is no such cell;",
            TYPED, "text 0 1", "issue 1 1 1 9 1", "covers 1 0 ! bounds", "covers 2 0 ! bounds", "cell 0 0 1",
            "covers 1 1 ! bounds", "covers 1 -1 ! bounds", "covers 1 MAX ! bounds", "covers 9 MIN ! bounds",
            "covers 1 0 = yes");
        promise.story("IllegalState: there is no such warning,",
            "cell 0 0 1", "covers 1 0 ! state", TYPED, "text 0 1", "issue 1 1 1 9 1", "covers 2 0 ! state",
            "covers 0 0 ! state", "covers -1 0 ! state", "covers MAX 0 ! state", "covers 1 0 = yes");
        promise.story("or its newest version is a cancel.",
            "cell 0 0 1", TYPED, "text 0 1", "issue 1 1 1 9 1", TYPED, "text 0 1", "issue 2 1 1 9 1", "cancel 1",
            "covers 1 0 ! state", "covers 2 0 = yes", "minute", "covers 1 0 ! state");
    }

    private static void version() {
        promise("Promise 16: version");
        promise.sentence("The number of the newest version of a warning; 0 when there is none.");
        promise.story("The number of the newest version of a warning;",
            TYPED, "text 0 1", "issue 3 1 1 9 1", "version 3 = 1", TYPED, "text 0 1", "update 3 1 9 1", "version 3 = 2",
            TYPED, "text 0 1", "update 3 1 9 1", "version 3 = 3", "cancel 3", "version 3 = 4", "9 x minute",
            "version 3 = 4");
        promise.story("0 when there is none.",
            "version 1 = 0", TYPED, "text 0 1", "issue 3 1 1 9 1", "version 2 = 0", "version 4 = 0", "version 0 = 0",
            "version -3 = 0", "version 1001 = 0", "version MAX = 0", "version MIN = 0");
    }

    private static void listed() {
        promise("Promise 17: listed");
        promise.sentence("Of the k-th version, from 0, of a cell's list: its id (what = 0), number (1), severity (2), "
            + "end (3), 1 if it is spoken, otherwise 0 (4).");
        List<String> two = List.of("cell 500 0 1", "cell 0 0 1", TYPED, "text 0 1", "issue 30 2 1 9 1", TYPED, "text 0 1",
            "issue 20 4 1 8 1", "minute = 2", "cancel 20", "minute = 2");
        story("Of the k-th version, from 0, of a cell's list: its id (what = 0),", two,
            "listed 1 0 0 = 20", "listed 1 1 0 = 30");
        story("number (1), severity (2), end (3),", two, "listed 1 0 1 = 2", "listed 1 1 1 = 1", "listed 1 0 2 = 4",
            "listed 1 1 2 = 2", "listed 1 0 3 = 8", "listed 1 1 3 = 9");
        story("1 if it is spoken, otherwise 0 (4).", two, "listed 1 0 4 = 0", "listed 1 1 4 = 1");
        promise.sentence("IndexOutOfBounds: there is no such cell, or version; IllegalArgument: another what.");
        story("IndexOutOfBounds: there is no such cell,", two, "listed -1 0 0 ! bounds", "listed 2 0 0 ! bounds",
            "listed MAX 0 0 ! bounds", "listed MIN 0 9 ! bounds", "listed 1 0 0 = 20");
        story("or version;", two, "listed 0 0 0 ! bounds", "listed 1 -1 0 ! bounds", "listed 1 2 0 ! bounds",
            "listed 1 MAX 0 ! bounds", "listed 1 MIN 9 ! bounds", "listed 1 1 0 = 30");
        story("IllegalArgument: another what.", two, "listed 1 0 -1 ! argument", "listed 1 0 5 ! argument",
            "listed 1 1 MAX ! argument", "listed 1 1 MIN ! argument");
    }

    private static void sent() {
        promise("Promise 18: sent");
        promise.sentence("Of the k-th page, from 0, that a cell sent in the latest minute: its id (what = 0), version "
            + "(1), language (2), number (3), how many bytes it has (4).");
        List<String> pages = List.of("cell 500 0 1", "cell 0 0 1", TYPED, "text 0 1", "issue 30 2 1 9 2", TYPED,
            "text 0 1", "issue 20 4 1 8 1", "minute = 2", TYPED, "bytes 1 3", "bytes 2 14", "update 20 1 8 1",
            "minute = 3", "cancel 20", "minute = 2", TYPED, "bytes 1 3", "bytes 2 14", "update 30 1 8 1", "minute = 4");
        story("Of the k-th page, from 0, that a cell sent in the latest minute: its id (what = 0),", pages,
            "sent 1 0 0 = 20", "sent 1 1 0 = 30", "sent 1 2 0 = 30", "sent 1 3 0 = 30");
        story("version (1), language (2),", pages, "sent 1 0 1 = 3", "sent 1 1 1 = 2", "sent 1 3 1 = 2",
            "sent 1 0 2 = 3", "sent 1 1 2 = 1", "sent 1 2 2 = 2", "sent 1 3 2 = 2");
        story("number (3), how many bytes it has (4).", pages, "sent 1 0 3 = 0", "sent 1 1 3 = 0", "sent 1 2 3 = 0",
            "sent 1 3 3 = 1", "sent 1 0 4 = 0", "sent 1 1 4 = 3", "sent 1 2 4 = 10", "sent 1 3 4 = 4");
        promise.sentence("IndexOutOfBounds: there is no such cell, or page; IllegalArgument: another what.");
        story("IndexOutOfBounds: there is no such cell,", pages, "sent -1 0 0 ! bounds", "sent 2 0 0 ! bounds",
            "sent MAX 0 0 ! bounds", "sent MIN 0 9 ! bounds", "sent 1 0 0 = 20");
        story("or page;", pages, "sent 0 0 0 ! bounds", "sent 1 -1 0 ! bounds", "sent 1 4 0 ! bounds",
            "sent 1 MAX 0 ! bounds", "sent 1 MIN 9 ! bounds", "sent 1 3 0 = 30");
        story("IllegalArgument: another what.", pages, "sent 1 0 -1 ! argument", "sent 1 0 5 ! argument",
            "sent 1 3 MAX ! argument", "sent 1 3 MIN ! argument");
    }

    private static void shown() {
        promise("Promise 19: shown");
        promise.sentence("Of the k-th version, from 0, that a handset showed: its id (what = 0), number (1), the "
            + "language (2), the minute (3), 1 if it is CURRENT (its end is greater than the clock, and the handset "
            + "heard no page of a newer one), otherwise 0 (4), how many bytes the text has (5).");
        List<String> two = List.of("cell 0 0 1", "handset 3", "handset 3", "camp 1 0", TYPED, "bytes 1 12",
            "issue 20 2 2 9 1", "minute = 0", "minute = 2", TYPED, "bytes 0 3", "update 20 1 5 1", "minute = 1");
        story("Of the k-th version, from 0, that a handset showed: its id (what = 0), number (1),", two,
            "shown 1 0 0 = 20", "shown 1 1 0 = 20", "shown 1 0 1 = 1", "shown 1 1 1 = 2");
        story("the language (2), the minute (3),", two, "shown 1 0 2 = 1", "shown 1 1 2 = 0", "shown 1 0 3 = 2",
            "shown 1 1 3 = 3");
        story("1 if it is CURRENT (its end is greater than the clock,", two, "minute = 1", "shown 1 1 4 = 1",
            "minute = 0", "shown 1 1 4 = 0");
        story("and the handset heard no page of a newer one), otherwise 0 (4),", two, "shown 1 0 4 = 0",
            "shown 1 1 4 = 1", "cancel 20", "shown 1 1 4 = 1", "miss 1 1", "minute = 1", "shown 1 1 4 = 1");
        story("and the handset heard no page of a newer one), otherwise 0 (4), | of a cancel", two, "cancel 20",
            "minute = 1", "shown 1 0 4 = 0", "shown 1 1 4 = 0");
        story("how many bytes the text has (5).", two, "shown 1 0 5 = 12", "shown 1 1 5 = 3");
        promise.sentence("IndexOutOfBounds: there is no such handset, or version; IllegalArgument: another what.");
        story("IndexOutOfBounds: there is no such handset,", two, "shown -1 0 0 ! bounds", "shown 2 0 0 ! bounds",
            "shown MAX 0 0 ! bounds", "shown MIN 0 9 ! bounds", "shown 1 0 0 = 20");
        story("or version;", two, "shown 0 0 0 ! bounds", "shown 1 -1 0 ! bounds", "shown 1 2 0 ! bounds",
            "shown 1 MAX 0 ! bounds", "shown 1 MIN 9 ! bounds", "shown 1 1 0 = 20");
        story("IllegalArgument: another what.", two, "shown 1 0 -1 ! argument", "shown 1 0 6 ! argument",
            "shown 1 1 MAX ! argument", "shown 1 1 MIN ! argument");
    }

    private static void shownByte() {
        promise("Promise 20: shownByte");
        promise.sentence("Byte i, from 0, of the text of the k-th version that a handset showed.");
        List<String> two = List.of("cell 0 0 1", "handset 3", "handset 3", "camp 1 0", TYPED, "bytes 0 1", "bytes 2 30",
            "issue 20 2 1 9 1", TYPED, "text 1 0", "text 1 255", "issue 30 1 1 9 1", "likes 1 2", "minute = 5");
        story("Byte i, from 0, of the text of the k-th version that a handset showed.", two,
            "shownByte 1 0 0 = 97", "shownByte 1 0 9 = 106", "shownByte 1 0 10 = 107", "shownByte 1 0 29 = 100",
            "shownByte 1 1 0 = 0", "shownByte 1 1 1 = 255");
        promise.sentence("IndexOutOfBounds: there is no such handset, version, or byte.");
        story("IndexOutOfBounds: there is no such handset,", two, "shownByte -1 0 0 ! bounds",
            "shownByte 2 0 0 ! bounds", "shownByte MAX 0 0 ! bounds", "shownByte MIN 0 0 ! bounds");
        story("version,", two, "shownByte 0 0 0 ! bounds", "shownByte 1 -1 0 ! bounds", "shownByte 1 2 0 ! bounds",
            "shownByte 1 MAX 0 ! bounds", "shownByte 1 MIN 0 ! bounds");
        story("or byte.", two, "shownByte 1 0 -1 ! bounds", "shownByte 1 0 30 ! bounds", "shownByte 1 1 2 ! bounds",
            "shownByte 1 1 MAX ! bounds", "shownByte 1 1 MIN ! bounds");
    }

    private static void total() {
        promise("Promise 21: total");
        promise.sentence("The clock (what = 0), how many cells (1), warnings (2), versions (3), handsets (4) there are; "
            + "10 + h: how many alarms handset h had; NONE for another what.");
        promise.story("The clock (what = 0), how many cells (1), warnings (2), versions (3), handsets (4) there are;",
            "total 0 = 0", "total 1 = 0", "total 2 = 0", "total 3 = 0", "total 4 = 0", "7 x minute", "5 x cell 0 0 1",
            TYPED, "text 0 1", "issue 1 1 9 99 1", TYPED, "text 0 1", "issue 2 1 9 99 1", "cancel 1", TYPED, "text 0 1",
            "update 2 1 99 1", "3 x handset 0", "total 0 = 7", "total 1 = 5", "total 2 = 2", "total 3 = 4", "total 4 = 3");
        promise.story("10 + h: how many alarms handset h had;",
            "cell 0 0 1", "handset 3", "handset 0", "handset 4", "camp 0 0", "camp 1 0", "camp 2 0", TYPED, "text 0 1",
            "issue 1 2 1 9 1", TYPED, "text 0 1", "issue 2 3 1 9 1", "total 10 = 0", "minute = 2", "total 10 = 1",
            "total 11 = 2", "total 12 = 0", "minute = 2", "total 10 = 1", "total 11 = 2");
        promise.story("NONE for another what.",
            "total -1 = NONE", "total 5 = NONE", "total 9 = NONE", "total 10 = NONE", "total MAX = NONE",
            "total MIN = NONE", "handset 0", "total 10 = 0", "total 11 = NONE", "handset 0", "handset 0", "total 12 = 0",
            "total 13 = NONE", "total 9 = NONE");
    }
}
