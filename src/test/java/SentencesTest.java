import java.util.List;

/** All promises and the Terms: every sentence has a test of its own, and none is left out. */
public final class SentencesTest {
    public static void main(String[] args) throws Exception {
        Due due = new Due();
        Document document = new Document();
        List<Said.Sentence> sentences = Said.all();
        for (Said.Sentence sentence : sentences) {
            due.about(sentence.name());
            due.holds("it stands in the document", document.isQuoted(sentence.section(), sentence.words()));
            int looked = due.looked();
            sentence.body().look(due);
            due.holds("something is looked at", due.looked() > looked);
        }
        int sections = 0;
        for (String section : document.sections()) {
            sections++;
            due.about(section);
            String rest = document.unquoted(section);
            due.holds("no test names \"" + rest + "\"", rest.isEmpty());
        }
        due.about("the document");
        due.is("sections: 41 promises, the Terms' three parts, the answers", sections, 45);
        due.end();
        System.out.println(sentences.size() + " sentences hold");
    }
}
