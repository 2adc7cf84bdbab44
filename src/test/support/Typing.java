/** Types whole areas and texts, and asks for what cells and handsets hold as text. */
final class Typing {
    private Typing() {
    }

    static void corners(AreaWarnings w, int... coordinates) {
        for (int i = 0; i + 1 < coordinates.length; i += 2) {
            w.corner(coordinates[i], coordinates[i + 1]);
        }
    }

    static void text(AreaWarnings w, int language, String text) {
        for (int i = 0; i < text.length(); i++) {
            w.text(language, text.charAt(i));
        }
    }

    /** A square of side 20 round the point (x, y), and a text in language 0. */
    static void near(AreaWarnings w, int x, int y, String text) {
        corners(w, x - 10, y - 10, x + 10, y - 10, x + 10, y + 10, x - 10, y + 10);
        text(w, 0, text);
    }

    /** "id.number" of each version of a cell's list; a cancel has a minus before it. */
    static String list(AreaWarnings w, int c) {
        StringBuilder all = new StringBuilder();
        for (int k = 0; ; k++) {
            try {
                String sign = w.listed(c, k, 4) == 1 ? "" : "-";
                all.append(k == 0 ? "" : " ").append(sign).append(w.listed(c, k, 0)).append('.').append(w.listed(c, k, 1));
            } catch (IndexOutOfBoundsException e) {
                return all.toString();
            }
        }
    }

    /** "id.version/language.number:bytes" of each page that a cell sent. */
    static String pages(AreaWarnings w, int c) {
        StringBuilder all = new StringBuilder();
        for (int k = 0; ; k++) {
            try {
                all.append(k == 0 ? "" : " ").append(w.sent(c, k, 0)).append('.').append(w.sent(c, k, 1))
                    .append('/').append(w.sent(c, k, 2)).append('.').append(w.sent(c, k, 3))
                    .append(':').append(w.sent(c, k, 4));
            } catch (IndexOutOfBoundsException e) {
                return all.toString().trim();
            }
        }
    }

    /** "id.number/language@minute=text" of each version that a handset showed, with a ! when it is current. */
    static String screen(AreaWarnings w, int h) {
        StringBuilder all = new StringBuilder();
        for (int k = 0; ; k++) {
            try {
                all.append(k == 0 ? "" : " ").append(w.shown(h, k, 0)).append('.').append(w.shown(h, k, 1))
                    .append('/').append(w.shown(h, k, 2)).append('@').append(w.shown(h, k, 3)).append('=');
                int bytes = w.shown(h, k, 5);
                for (int i = 0; i < bytes; i++) {
                    all.append((char) w.shownByte(h, k, i));
                }
                all.append(w.shown(h, k, 4) == 1 ? "!" : "");
            } catch (IndexOutOfBoundsException e) {
                return all.toString().trim();
            }
        }
    }

    static void same(String what, String due, String got) {
        if (!due.equals(got)) {
            System.out.println(what + " is [" + got + "], due is [" + due + "]");
        }
        Check.isTrue(what, due.equals(got));
    }
}
