import java.util.ArrayList;
import java.util.List;

/** The boundary cases of areas: which are simple, and what they cover (promises 6, 7 and 15). */
public final class EdgesOfAreasTest {
    public static void main(String[] args) {
        threeCornersOrMore();
        allDifferent();
        sidesThatCross();
        sidesThatTouch();
        sidesOnOneLine();
        sidesThatFoldBack();
        theLastSide();
        updateAsksTheSame();
        sidesAtTheRadius();
        cornersAtTheRadius();
        slopesAtTheRadius();
        nearlyAtTheRadius();
        insideAndOutside();
        besideCorners();
        leastAndGreatestCells();
        coversIsAsked();
        coversIsRefused();
        Check.finish();
    }

    private static void simple(String what, String area) {
        for (String turned : turns(area)) {
            Story.tell(what + ": " + turned, "text 1 5", "area " + turned, "issue 1 1 1 9 1 = 0", "version 1 = 1");
        }
    }

    private static void notSimple(String what, String area) {
        for (String turned : turns(area)) {
            Story.tell(what + ": " + turned, "text 1 5", "area " + turned, "issue 1 1 1 9 1 ! unsupported",
                "version 1 = 0");
        }
    }

    /** An area told from each of its corners on, forwards and backwards: none of its properties may change. */
    private static List<String> turns(String area) {
        String[] words = area.split(" ");
        int corners = words.length / 2;
        List<String> all = new ArrayList<>();
        for (int first = 0; first < corners; first++) {
            for (int step = 1; step >= -1; step -= 2) {
                StringBuilder turned = new StringBuilder();
                for (int n = 0; n < corners; n++) {
                    int i = Math.floorMod(first + n * step, corners);
                    turned.append(n == 0 ? "" : " ").append(words[2 * i]).append(' ').append(words[2 * i + 1]);
                }
                all.add(turned.toString());
            }
        }
        return all;
    }

    private static void threeCornersOrMore() {
        Story.tell("SIMPLE when it has 3 corners or more: none, 1, 2 are too few, 3 are enough",
            "text 0 1", "issue 1 1 1 9 1 ! unsupported", "corner 0 0", "issue 1 1 1 9 1 ! unsupported", "corner 10 0",
            "issue 1 1 1 9 1 ! unsupported", "corner 0 10", "issue 1 1 1 9 1 = 0", "version 1 = 1");
        simple("4 corners", "0 0 10 0 10 10 0 10");
        simple("7 corners", "0 0 50 -20 100 0 120 50 100 100 50 120 0 100");
        simple("8 corners", "0 0 50 -20 100 0 120 50 100 100 50 120 0 100 -20 50");
        simple("the least triangle", "0 0 1 0 0 1");
        simple("a needle with a straight corner", "-1000 -1000 999 999 1000 1000 999 1000");
        simple("a thin triangle", "-1000 -1000 1000 999 1000 1000");
        simple("the greatest square", "-1000 -1000 1000 -1000 1000 1000 -1000 1000");
    }

    private static void allDifferent() {
        notSimple("all different: three times the same", "5 5 5 5 5 5");
        notSimple("all different: two of three the same", "0 0 10 0 0 0");
        notSimple("all different: the same in a row", "0 0 10 0 10 0 0 10");
        notSimple("all different: the first again at the end", "0 0 10 0 0 10 0 0");
        notSimple("all different: two parts that meet in one", "0 0 10 10 10 -10 0 0 -10 10 -10 -10");
        notSimple("all different: the eighth is the first", "0 0 50 -20 100 0 120 50 100 100 50 120 0 100 0 0");
        notSimple("all different: the eighth is the fourth", "0 0 50 -20 100 0 120 50 100 100 50 120 0 100 120 50");
        simple("all different: in x alone, in y alone", "0 0 1 0 1 1 0 1");
        simple("all different: x and y in turn", "3 7 7 3 8 8");
    }

    private static void sidesThatCross() {
        notSimple("two sides have no point in common: crossing", "0 0 10 10 10 0 0 10");
        notSimple("two sides have no point in common: crossing, greatest", "-1000 -1000 1000 1000 1000 -1000 -1000 1000");
        notSimple("two sides have no point in common: crossing between whole points", "0 0 3 2 3 0 1 3");
        notSimple("two sides have no point in common: crossing twice", "0 0 20 0 20 10 15 -5 5 -5 0 10");
        notSimple("two sides have no point in common: a star", "0 100 60 -80 -95 30 95 30 -60 -80");
        simple("two sides have no point in common: a dent", "0 0 10 0 10 10 5 1 0 10");
    }

    private static void sidesThatTouch() {
        simple("a corner 1 above another side", "0 0 10 0 10 10 5 1 0 10");
        notSimple("a corner on another side", "0 0 10 0 10 10 5 0 0 10");
        notSimple("a corner 1 beyond another side", "0 0 10 0 10 10 5 -1 0 10");
        notSimple("a corner on a slope", "0 0 20 10 20 30 8 4 0 30");
        simple("a corner just above a slope", "0 0 20 10 20 30 8 5 0 30");
        simple("a corner on the slope's line, beyond its end", "0 0 10 5 20 30 30 15 40 40 0 40");
        notSimple("a long slope, touched", "-1000 -1000 1000 0 1000 1000 0 -500 -1000 1000");
        simple("a long slope, not touched by 1", "-1000 -1000 1000 0 1000 1000 0 -499 -1000 1000");
        notSimple("a long slope, passed by 1", "-1000 -1000 1000 0 1000 1000 0 -501 -1000 1000");
        simple("a long steep slope, not touched by little", "-1000 -1000 999 1000 -1000 1000 -1 0 -1000 0");
    }

    private static void sidesOnOneLine() {
        simple("sides on one line, 1 apart", "0 0 4 0 4 5 5 5 5 0 9 0 9 9 0 9");
        notSimple("sides on one line that end in one point", "0 0 4 0 4 5 6 5 4 0 9 0 9 9 0 9");
        notSimple("sides on one line that overlap", "0 0 10 0 10 5 8 0 2 0 0 5");
        notSimple("sides on one line, upright, that overlap", "0 0 0 10 5 10 0 8 0 2 5 0");
        notSimple("sides on one slope that overlap", "0 0 20 10 20 30 16 8 4 2 0 30");
        simple("sides on one line, upright, 1 apart", "0 0 0 4 5 4 5 5 0 5 0 9 9 9 9 0");
        simple("parallel sides, 1 apart", "0 0 10 0 10 1 0 1");
    }

    private static void sidesThatFoldBack() {
        simple("that one alone: a straight corner", "0 0 5 0 10 0 0 10");
        simple("that one alone: a straight corner, parts unlike", "0 0 3 0 10 0 0 10");
        simple("that one alone: a straight corner, upright", "0 0 0 5 0 10 10 0");
        simple("that one alone: a straight corner, upright, parts unlike", "0 0 0 3 0 10 10 0");
        simple("that one alone: straight corners on a slope", "0 0 4 2 8 4 12 6 0 20");
        simple("that one alone: straight corners on a steep slope", "0 0 2 4 3 6 9 18 20 0");
        simple("that one alone: straight corners on a falling slope", "0 20 4 18 12 14 0 0");
        notSimple("that one alone: back on itself, short", "0 0 10 0 5 0 5 10");
        notSimple("that one alone: back on itself, beyond", "0 0 10 0 -5 0 -5 10");
        simple("that one alone: back beside itself by 1", "0 0 10 0 5 1 5 10");
        notSimple("that one alone: upright", "0 0 0 10 0 4 8 1");
        notSimple("that one alone: rising", "0 0 10 10 4 4 8 1");
        notSimple("that one alone: falling", "0 10 10 0 4 6 8 9");
        notSimple("that one alone: on a long slope", "-1000 -1000 1000 1000 999 999 1000 -1000");
        simple("that one alone: beside a long slope", "-1000 -1000 1000 1000 999 998 1000 -1000");
        notSimple("that one alone: a triangle on a line", "0 0 10 0 20 0");
        notSimple("that one alone: a triangle on a slope", "0 0 10 5 20 10");
        notSimple("that one alone: a triangle on an upright line", "0 0 0 10 0 20");
        notSimple("that one alone: a triangle on a steep slope", "0 0 5 10 7 14");
        notSimple("that one alone: a triangle on a falling slope", "0 20 4 18 12 14");
        notSimple("that one alone: the least triangle on a line", "0 0 1 0 2 0");
        notSimple("that one alone: the longest triangle on a line", "-1000 1000 999 -999 1000 -1000");
        notSimple("that one alone: four on a line", "0 0 10 0 20 0 5 0");
    }

    private static void theLastSide() {
        notSimple("its SIDES lead from the last corner to the first: it crosses", "0 0 10 10 0 10 10 1");
        notSimple("its SIDES lead from the last corner to the first: it touches", "0 0 10 5 20 0 20 20 10 -5 5 0 0 -10");
        notSimple("its SIDES lead from the last corner to the first: it folds back", "10 0 10 10 5 0 0 0");
        Story.tell("from the last to the first: the last side covers",
            "cell -6 5 5", "cell -5 5 5", "area 0 0 20 5 0 10", "text 0 1", "issue 1 1 1 9 1 = 1", "covers 1 0 = no",
            "covers 1 1 = yes");
    }

    private static void updateAsksTheSame() {
        Story.tell("UnsupportedOperation: the area is not simple, or no language is offered",
            "near 0 0", "text 0 1", "issue 1 1 1 9 1", "update 1 1 9 1 ! unsupported", "text 2 1",
            "update 1 1 9 1 ! unsupported", "corner 0 0", "update 1 1 9 1 ! unsupported", "corner 10 0",
            "update 1 1 9 1 ! unsupported", "corner 5 0", "update 1 1 9 1 ! unsupported", "corner 5 10",
            "update 1 1 9 1 ! unsupported", "clear = 5", "area 0 0 10 0 5 10", "update 1 1 9 1 ! unsupported",
            "text 2 1", "update 1 1 9 1 = 0", "version 1 = 2", "clear = 0");
    }

    private static void covered(String what, String cell, String area) {
        tellCover(what, cell, area, "yes");
    }

    private static void notCovered(String what, String cell, String area) {
        tellCover(what, cell, area, "no");
    }

    private static void tellCover(String what, String cell, String area, String due) {
        boolean covers = due.equals("yes");
        for (String turned : turns(area)) {
            Story.tell(what + ": " + cell + " by " + turned, cell, "text 0 1", "area " + turned,
                "issue 1 1 1 9 1 = " + (covers ? 1 : 0), "covers 1 0 = " + due, cell, "covers 1 1 = " + due,
                "minute = " + (covers ? 2 : 0), "list 0 = " + (covers ? "1.1" : "nothing"),
                "list 1 = " + (covers ? "1.1" : "nothing"));
        }
    }

    private static void sidesAtTheRadius() {
        String square = "0 0 100 0 100 100 0 100";
        covered("not farther than its radius: below", "cell 50 -7 7", square);
        notCovered("farther by 1: below", "cell 50 -8 7", square);
        covered("not farther than its radius: above", "cell 50 107 7", square);
        notCovered("farther by 1: above", "cell 50 108 7", square);
        covered("not farther than its radius: left", "cell -7 50 7", square);
        notCovered("farther by 1: left", "cell -8 50 7", square);
        covered("not farther than its radius: right", "cell 107 50 7", square);
        notCovered("farther by 1: right", "cell 108 50 7", square);
        covered("as far as the side's first corner", "cell 0 -7 7", square);
        notCovered("farther by 1 than the side's first corner", "cell 0 -8 7", square);
        covered("as far as the side's last corner", "cell 100 -7 7", square);
        notCovered("farther by 1 than the side's last corner", "cell 100 -8 7", square);
    }

    private static void cornersAtTheRadius() {
        String square = "0 0 100 0 100 100 0 100";
        covered("a corner at the radius: 3, 4, 5", "cell -3 -4 5", square);
        notCovered("a corner beyond it: 3, 5", "cell -3 -5 5", square);
        notCovered("a corner beyond it: 4, 4", "cell -4 -4 5", square);
        covered("a corner at the radius, the opposite one", "cell 103 104 5", square);
        notCovered("beyond a side's end its line does not count", "cell 105 0 4", square);
        notCovered("beyond both ends, outside", "cell 104 -4 5", square);
        covered("a corner at the radius: 1200, 1600, 2000", "cell -700 -900 2000", "500 700 600 700 500 800");
        notCovered("a corner beyond it by 1", "cell -701 -900 2000", "500 700 600 700 500 800");
        notCovered("a corner inside a greater radius less 1", "cell -700 -900 1999", "500 700 600 700 500 800");
    }

    private static void slopesAtTheRadius() {
        String slope = "0 0 40 30 0 30";
        covered("a slope at the radius", "cell 23 11 5", slope);
        notCovered("a slope beyond it by 1 to the side", "cell 24 11 5", slope);
        notCovered("a slope beyond it by 1 down", "cell 23 10 5", slope);
        covered("a long slope at the radius: 1725", "cell 509 898 1725", "-931 -57 -451 -697 -485 -810");
        notCovered("a long slope, radius 1 less", "cell 509 898 1724", "-931 -57 -451 -697 -485 -810");
        covered("a long slope at the radius: 1523", "cell 635 568 1523", "-668 -233 -191 -869 -193 -976");
        notCovered("a long slope, radius 1 less", "cell 635 568 1522", "-668 -233 -191 -869 -193 -976");
        covered("a long slope at the radius: 713", "cell 443 -896 713", "-516 -724 600 113 -135 943");
        covered("a long slope at the radius: 382", "cell 349 102 382", "-725 -901 87 404 -10 860");
        covered("a long slope at the radius: 337", "cell 178 674 337", "191 299 641 539 265 -188");
        covered("a long slope at the radius: 432", "cell -633 712 432", "-181 568 -571 136 190 -809");
        covered("a long slope at the radius: 273", "cell -202 305 273", "-16 722 173 -118 -6 680");
        covered("a long slope at the radius: 304", "cell -137 63 304", "-991 -737 329 -33 753 120");
        covered("a long slope at the radius: 443", "cell 911 569 443", "871 -116 370 552 447 -741");
        covered("a long slope at the radius: 505", "cell 683 -892 505", "-242 -813 643 -341 -23 294");
    }

    /** The nearest misses and hits of a long search: the distance is off the radius by less than 0.0001. */
    private static void nearlyAtTheRadius() {
        notCovered("farther by little: 406", "cell -849 224 406", "-507 -231 -395 512 -173 -242");
        notCovered("farther by little: 545", "cell -6 818 545", "505 -346 -417 453 -63 -800");
        notCovered("farther by little: 613", "cell -239 613 613", "-457 -290 343 273 -292 -407");
        notCovered("farther by little: 1481", "cell -192 -800 1481", "68 658 -920 833 49 664");
        notCovered("farther by little: 132", "cell -967 329 132", "-998 474 82 184 135 763");
        notCovered("farther by little: 309", "cell -238 -447 309", "-296 1 -758 -640 -453 139");
        notCovered("farther by little: 1690", "cell 318 -764 1690", "266 927 396 925 986 941");
        notCovered("farther by little: 1065", "cell -565 -701 1065", "477 -480 443 -333 696 184");
        notCovered("farther by little: 570", "cell -526 98 570", "-892 -393 -331 -546 -655 -730");
        covered("nearer by little: 367", "cell 143 810 367", "907 935 -492 -142 768 -230");
        covered("nearer by little: 1631", "cell 907 -65 1631", "-586 -993 -799 220 -639 -754");
    }

    private static void insideAndOutside() {
        String square = "-100 -100 100 -100 100 100 -100 100";
        covered("some point that lies in it: the centre, all sides too far", "cell 0 0 1", square);
        covered("some point that lies in it: 2 from a side", "cell 98 0 1", square);
        covered("or on a side", "cell 100 0 1", square);
        covered("1 outside", "cell 101 0 1", square);
        notCovered("2 outside", "cell 102 0 1", square);
        covered("on a corner", "cell 100 100 1", square);
        covered("the whole area within the radius", "cell 0 0 50", "-1 -1 1 -1 0 1");
        covered("the whole area within the radius, far from the centre", "cell 0 0 50", "20 20 22 20 21 22");
        String dent = "0 0 100 0 100 100 50 10 0 100";
        notCovered("in the dent", "cell 50 80 5", dent);
        covered("below the dent", "cell 50 5 1", dent);
        covered("left of the dent", "cell 10 50 1", dent);
        covered("right of the dent", "cell 90 50 1", dent);
        String comb = "0 0 90 0 90 90 60 90 60 20 30 20 30 90 0 90";
        covered("in the first tooth", "cell 15 60 1", comb);
        notCovered("between the teeth", "cell 45 60 5", comb);
        covered("in the second tooth", "cell 75 60 1", comb);
        notCovered("beside the teeth", "cell 105 60 5", comb);
    }

    /** A ray from the centre meets corners, or runs along a side. */
    private static void besideCorners() {
        String rhomb = "-100 0 0 -100 100 0 0 100";
        covered("inside, at the height of two corners", "cell 0 0 1", rhomb);
        notCovered("outside, left, at the height of two corners", "cell -150 0 1", rhomb);
        notCovered("outside, right, at the height of two corners", "cell 150 0 1", rhomb);
        notCovered("outside, left, at the greatest height", "cell -50 100 1", rhomb);
        notCovered("outside, left, at the least height", "cell -50 -100 1", rhomb);
        String steps = "0 0 100 0 100 50 50 50 50 100 0 100";
        covered("inside, at the height of a side", "cell 25 50 1", steps);
        notCovered("outside, left, at the height of a side", "cell -25 50 1", steps);
        notCovered("outside, right, at the height of a side", "cell 125 50 1", steps);
        notCovered("outside, left, at the height of the lowest side", "cell -25 0 1", steps);
        notCovered("outside, left, at the height of the highest side", "cell -25 100 1", steps);
        notCovered("outside, above the step", "cell 75 75 1", steps);
    }

    private static void leastAndGreatestCells() {
        covered("the greatest radius, at it", "cell 1000 1000 2000", "-1000 1000 -1000 -1000 -999 -1000");
        notCovered("the greatest radius less 1", "cell 1000 1000 1999", "-1000 1000 -1000 -1000 -999 -1000");
        notCovered("the greatest radius, and the farthest area", "cell 1000 1000 2000",
            "-1000 -1000 -900 -1000 -1000 -900");
        covered("the least radius, at it", "cell 0 -1 1", "0 0 5 5 -5 5");
        notCovered("the least radius, beyond it", "cell 0 -2 1", "0 0 5 5 -5 5");
        notCovered("the least radius, aslant", "cell -1 -1 1", "0 0 5 0 0 5");
    }

    private static void coversIsAsked() {
        Story.tell("Whether the newest version of a warning that is spoken covers a cell",
            "cell 0 0 1", "cell 500 0 1", "near 0 0", "text 0 1", "issue 1 1 5 9 1 = 1", "covers 1 0 = yes",
            "covers 1 1 = no", "near 500 0", "text 0 1", "update 1 1 9 1 = 1", "covers 1 0 = no", "covers 1 1 = yes",
            "cell 500 0 1", "covers 1 2 = yes", "cell 0 0 1", "covers 1 3 = no", "area 0 30 500 30 250 31", "text 0 1",
            "update 1 1 3 1 = 0", "covers 1 1 = no", "minute = 0", "minute = 0", "minute = 0", "covers 1 1 = no");
        Story.tell("covers a cell: before its beginning, at its end and behind it",
            "cell 0 0 1", "near 0 0", "text 0 1", "issue 1 1 2 3 1 = 1", "covers 1 0 = yes", "minute = 0",
            "covers 1 0 = yes", "minute = 1", "covers 1 0 = yes", "minute = 0", "covers 1 0 = yes", "minute = 0",
            "covers 1 0 = yes");
        Story.tell("covers a cell, its line whole or cut",
            "cell 0 0 1", "line 0 cut = yes", "near 0 0", "text 0 1", "issue 1 1 1 9 1 = 1", "covers 1 0 = yes",
            "minute = 0", "covers 1 0 = yes");
    }

    private static void coversIsRefused() {
        Story.tell("IndexOutOfBounds: there is no such cell",
            "near 0 0", "text 0 1", "issue 1 1 1 9 1 = 0", "covers 1 0 ! bounds", "8 x cell 0 0 1", "covers 1 0 = yes",
            "covers 1 7 = yes", "covers 1 8 ! bounds", "covers 1 -1 ! bounds", "covers 1 MAX ! bounds",
            "covers 1 MIN ! bounds");
        Story.tell("IllegalState: there is no such warning",
            "cell 0 0 1", "covers 1 0 ! state", "near 0 0", "text 0 1", "issue 1 1 1 9 1 = 1", "covers 0 0 ! state",
            "covers 1 0 = yes", "covers 2 0 ! state", "covers -1 0 ! state", "covers 1000 0 ! state",
            "covers 1001 0 ! state", "covers MAX 0 ! state", "covers MIN 0 ! state");
        Story.tell("or its newest version is a cancel",
            "cell 0 0 1", "near 0 0", "text 0 1", "issue 1 1 1 9 1 = 1", "near 0 0", "text 0 1", "issue 2 1 1 9 1 = 1",
            "cancel 1 = 2", "covers 1 0 ! state", "covers 2 0 = yes", "minute = 1", "covers 1 0 ! state",
            "9 x minute", "covers 1 0 ! state", "covers 2 0 = yes");
    }
}
