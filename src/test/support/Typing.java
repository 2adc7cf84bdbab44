/** Types whole areas and texts, and asks for what cells and handsets hold as text (see View). */
final class Typing {
    private Typing() {
    }

    static void corners(AreaWarnings w, int... coordinates) {
        for (int i = 0; i + 1 < coordinates.length; i += 2) {
            w.corner(coordinates[i], coordinates[i + 1]);
        }
    }

    static void text(AreaWarnings w, int language, String text) {
        for (int i = 0; i < text.length(); i++) {
            w.text(language, text.charAt(i));
        }
    }

    /** A square of side 20 round the point (x, y), and a text in language 0. */
    static void near(AreaWarnings w, int x, int y, String text) {
        corners(w, x - 10, y - 10, x + 10, y - 10, x + 10, y + 10, x - 10, y + 10);
        text(w, 0, text);
    }

    static String list(AreaWarnings w, int c) {
        return View.list(new Program(w), c);
    }

    static String pages(AreaWarnings w, int c) {
        return View.pages(new Program(w), c);
    }

    static String screen(AreaWarnings w, int h) {
        return View.screen(new Program(w), h);
    }
}
