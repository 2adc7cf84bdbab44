import java.util.ArrayList;
import java.util.List;

/**
 * A sentence of the document, and a run of calls on a new object that keeps to it, told as rows (see Row). The
 * program has to give the answers that are due, and so has Model, lest a row be told wrongly. A run with refused
 * calls is also compared with the same run without them: they have to change nothing.
 */
final class Story {
    private Story() {
    }

    static void tell(String sentence, String... told) {
        List<Row> rows = tellWithoutQuestions(sentence, told);
        List<Row> taken = new ArrayList<>(rows);
        taken.removeIf(Row::isRefused);
        if (taken.size() < rows.size()) {
            Questions.compare(sentence, taken, rows);
        }
    }

    /** For a run that leaves too few of its 512 calls for the questions. */
    static List<Row> tellWithoutQuestions(String sentence, String... told) {
        List<Row> rows = new ArrayList<>();
        for (String one : told) {
            rows.addAll(Row.read(one));
        }
        play(sentence, rows, new Program());
        play(sentence + " (model)", rows, new Model());
        return rows;
    }

    private static void play(String sentence, List<Row> rows, Caller w) {
        for (Row row : rows) {
            String got = View.answer(w, row.name(), row.a());
            if (row.due() == null) {
                Check.isFalse(sentence + ": " + row.told() + " gave " + got, got.startsWith("throws."));
            } else {
                Check.same(sentence + ": " + row.told(), row.due(), got);
            }
        }
    }
}
