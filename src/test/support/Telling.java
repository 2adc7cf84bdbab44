import java.util.List;

/**
 * A section of the document, told again sentence by sentence, each with stories that keep to it. The test fails
 * unless its sentences are the document's, all of them in their order, and the words of each sentence stand in
 * the stories told behind it: no half of a sentence goes without a story.
 */
final class Telling {
    private final String section;
    private final List<String> due;
    private int told = 0;
    private String sentence = "";
    private boolean[] covered = new boolean[0];

    Telling(String section) {
        this.section = section;
        due = Document.sentences(section);
    }

    void sentence(String words) {
        finishSentence();
        Check.same(section + ", sentence " + told, told < due.size() ? due.get(told) : "none", words);
        told++;
        sentence = words;
        covered = new boolean[words.length()];
    }

    /** A story of some words of the sentence; behind " | " may stand which case of them it is. */
    void story(String words, String... rows) {
        cover(words.split(" \\| ")[0]);
        Story.tell(section + ": " + words, rows);
    }

    void finish() {
        finishSentence();
        Check.equal(section + ": sentences told", due.size(), told);
    }

    private void cover(String words) {
        int from = sentence.indexOf(words);
        Check.isTrue(section + ": these words stand in the sentence: " + words, from >= 0);
        for (int i = from; from >= 0 && i < from + words.length(); i++) {
            covered[i] = true;
        }
    }

    private void finishSentence() {
        StringBuilder left = new StringBuilder();
        for (int i = 0; i < covered.length; i++) {
            if (!covered[i] && Character.isLetterOrDigit(sentence.charAt(i))) {
                left.append(sentence.charAt(i));
            }
        }
        Check.same(section + ": letters without a story in: " + sentence, "", left.toString());
    }
}
