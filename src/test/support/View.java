/** Answers as text: of single calls, and of all that a cell or a handset holds. */
final class View {
    private View() {
    }

    /** A number, or "throws." and the exception's name; for list, pages and screen what they hold. */
    static String answer(Caller w, String name, int... a) {
        switch (name) {
            case "list": return list(w, a[0]);
            case "pages": return pages(w, a[0]);
            case "screen": return screen(w, a[0]);
            default: break;
        }
        try {
            return String.valueOf(w.call(name, a));
        } catch (RuntimeException e) {
            return "throws." + e.getClass().getSimpleName();
        }
    }

    /** "id.number" of each version of a cell's list; a cancel has a minus before it. */
    static String list(Caller w, int c) {
        StringBuilder all = new StringBuilder();
        for (int k = 0; ; k++) {
            try {
                String sign = w.call("listed", c, k, 4) == 1 ? "" : "-";
                all.append(k == 0 ? "" : " ").append(sign).append(w.call("listed", c, k, 0))
                    .append('.').append(w.call("listed", c, k, 1));
            } catch (IndexOutOfBoundsException e) {
                return all.toString();
            }
        }
    }

    /** "id.version/language.number:bytes" of each page that a cell sent. */
    static String pages(Caller w, int c) {
        StringBuilder all = new StringBuilder();
        for (int k = 0; ; k++) {
            try {
                int id = w.call("sent", c, k, 0);
                all.append(k == 0 ? "" : " ").append(id).append('.').append(w.call("sent", c, k, 1))
                    .append('/').append(w.call("sent", c, k, 2)).append('.').append(w.call("sent", c, k, 3))
                    .append(':').append(w.call("sent", c, k, 4));
            } catch (IndexOutOfBoundsException e) {
                return all.toString();
            }
        }
    }

    /** "id.number/language@minute=text" of each version that a handset showed, with a ! when it is current. */
    static String screen(Caller w, int h) {
        StringBuilder all = new StringBuilder();
        for (int k = 0; ; k++) {
            try {
                int id = w.call("shown", h, k, 0);
                all.append(k == 0 ? "" : " ").append(id).append('.').append(w.call("shown", h, k, 1))
                    .append('/').append(w.call("shown", h, k, 2)).append('@').append(w.call("shown", h, k, 3));
            } catch (IndexOutOfBoundsException e) {
                return all.toString();
            }
            all.append('=');
            int bytes = w.call("shown", h, k, 5);
            for (int i = 0; i < bytes; i++) {
                all.append((char) w.call("shownByte", h, k, i));
            }
            all.append(w.call("shown", h, k, 4) == 1 ? "!" : "");
        }
    }
}
