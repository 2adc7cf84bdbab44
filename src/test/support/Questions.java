import java.util.ArrayList;
import java.util.List;

/**
 * All that can be asked of an object behind a run of calls. Each question has an object of its own, so that
 * questions that change it, or let minutes go by, are asked too.
 */
final class Questions {
    private static final int MOST_CELLS = 8;
    private static final int MOST_HANDSETS = 3;
    private static final int[] IDS = {0, 1, 2, 3, 4, 5, 6, 7, 8, 9, 10, 11, 12, 13, 41, 999, 1000, 1001};

    private final List<String[]> all = new ArrayList<>();

    private Questions(int clock) {
        ask("total 0", "total 1", "total 2", "total 3", "total 4", "total 10", "total 11", "total 12");
        askOfTyping(clock);
        for (int c = 0; c < MOST_CELLS; c++) {
            askOfCell(c);
        }
        for (int h = 0; h < MOST_HANDSETS; h++) {
            askOfHandset(h);
        }
        for (int id : IDS) {
            askOfWarning(id);
        }
    }

    static void compare(String sentence, List<Row> taken, List<Row> rows) {
        Program w = new Program();
        run(w, taken);
        for (String[] question : new Questions(w.call("total", 0)).all) {
            String due = answers(taken, question);
            String got = answers(rows, question);
            Check.same(sentence + ": a call that throws changes nothing: " + String.join(", ", question), due, got);
        }
    }

    private void ask(String... question) {
        all.add(question);
    }

    private void askOfTyping(int clock) {
        ask("clear", "clear");
        ask("corner 3 3", "text 0 0", "text 1 0", "text 2 0");
        ask("cell 0 0 1", "cell 0 0 1");
        ask("handset 0", "handset 0");
        String issue = "issue 998 5 " + (clock + 1) + " " + (clock + 9) + " 1";
        ask(issue, "covers 998 0", "covers 998 1", "covers 998 2", "covers 998 3", "version 998", "clear");
        for (int language = 0; language < 3; language++) {
            ask("cell 0 0 2000", "handset 0", "likes 0 " + language, "camp 0 0", issue, "minute", "list 0",
                "screen 0", "total 10");
        }
    }

    private void askOfCell(int c) {
        ask("list " + c, "pages " + c);
        ask("line " + c + " whole", "line " + c + " whole");
        ask("minute", "list " + c, "pages " + c, "minute", "list " + c, "pages " + c);
    }

    private void askOfHandset(int h) {
        ask("screen " + h);
        ask("camp " + h + " NONE", "camp " + h + " 0", "camp " + h + " 0");
        ask("miss " + h + " 0", "likes " + h + " 0");
        ask("minute", "minute", "miss " + h + " 0", "screen " + h, "total 10", "total 11", "total 12");
    }

    private void askOfWarning(int id) {
        ask("version " + id, "covers " + id + " 0", "covers " + id + " 1", "cancel " + id, "total 3", "minute");
    }

    private static void run(Caller w, List<Row> rows) {
        for (Row row : rows) {
            View.answer(w, row.name(), row.a());
        }
    }

    private static String answers(List<Row> rows, String[] question) {
        Program w = new Program();
        run(w, rows);
        StringBuilder answers = new StringBuilder();
        for (String call : question) {
            Row row = Row.read(call).get(0);
            answers.append(View.answer(w, row.name(), row.a())).append("; ");
        }
        return answers.toString();
    }
}
