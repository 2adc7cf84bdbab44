import java.util.ArrayList;
import java.util.Arrays;
import java.util.List;

/**
 * One call of a Story, and what is due for it: a number or a text, "throws." and an exception's name, or null
 * for any answer that is not thrown.
 */
record Row(String told, String name, int[] a, String due) {
    boolean isRefused() {
        return due != null && due.startsWith("throws.");
    }

    /**
     * The calls that a row tells: "cell 0 0 1 = 0", "cell 0 0 0 ! argument", "corner 1 1" (any answer), and with
     * "8 x" before it that many of them. Short for more than one call: "near x y" (a square of side 20 round a
     * point), "area x y x y .." (corners), "bytes language n" (a text of n bytes, a, b, ..), and "list c",
     * "pages c", "screen h" (all that they hold, see View).
     */
    static List<Row> read(String told) {
        String rest = told;
        int times = 1;
        if (told.matches("\\d+ x .*")) {
            times = Integer.parseInt(told.substring(0, told.indexOf(' ')));
            rest = told.substring(told.indexOf('x') + 2);
        }
        List<Row> once = readOnce(told, rest);
        List<Row> all = new ArrayList<>();
        for (int n = 0; n < times; n++) {
            all.addAll(once);
        }
        return all;
    }

    private static List<Row> readOnce(String told, String rest) {
        String[] halves = rest.split(" [=!] ", 2);
        String[] words = halves[0].split(" ");
        int[] a = new int[words.length - 1];
        for (int i = 0; i < a.length; i++) {
            a[i] = number(words[i + 1]);
        }
        switch (words[0]) {
            case "area": return corners(told, a);
            case "near": return corners(told, a[0] - 10, a[1] - 10, a[0] + 10, a[1] - 10,
                a[0] + 10, a[1] + 10, a[0] - 10, a[1] + 10);
            case "bytes": return bytes(told, a[0], a[1]);
            default: break;
        }
        String due = null;
        if (halves.length == 2) {
            due = rest.contains(" ! ") ? thrown(halves[1]) : answered(halves[1]);
        }
        return List.of(new Row(told, words[0], a, due));
    }

    private static List<Row> corners(String told, int... a) {
        List<Row> all = new ArrayList<>();
        for (int i = 0; i < a.length; i += 2) {
            all.add(new Row(told, "corner", Arrays.copyOfRange(a, i, i + 2), null));
        }
        return all;
    }

    private static List<Row> bytes(String told, int language, int count) {
        List<Row> all = new ArrayList<>();
        for (int i = 0; i < count; i++) {
            all.add(new Row(told, "text", new int[] {language, 'a' + i % 26}, null));
        }
        return all;
    }

    private static int number(String word) {
        switch (word) {
            case "MAX": return Integer.MAX_VALUE;
            case "MAX-1": return Integer.MAX_VALUE - 1;
            case "MIN": return Integer.MIN_VALUE;
            case "NONE": return -1;
            case "whole": return 1;
            case "cut": return 0;
            default: return Integer.parseInt(word);
        }
    }

    private static String answered(String word) {
        switch (word) {
            case "yes": return "1";
            case "no": return "0";
            case "nothing": return "";
            case "NONE": case "MAX": return String.valueOf(number(word));
            default: return word;
        }
    }

    private static String thrown(String word) {
        switch (word) {
            case "argument": return "throws.IllegalArgumentException";
            case "state": return "throws.IllegalStateException";
            case "bounds": return "throws.IndexOutOfBoundsException";
            case "unsupported": return "throws.UnsupportedOperationException";
            default: throw new AssertionError("nothing is thrown as " + word);
        }
    }
}
