import java.util.ArrayList;
import java.util.List;

/**
 * Sentences of the document, each with a test of its own. A sentence is named by the section that it stands in (a
 * promise's heading, or a part of the Terms) and by its words, as the document has them.
 */
abstract class Said {
    static final int NONE = -1, BAD = -2, STATE = -3, FULL = -4, NOT_ANY = -5;
    static final int NOTHING = -11, CAST = -12, PLACE = -13, SIZE = -14;
    static final long NO = Long.MIN_VALUE;
    static final int LEAST_INT = Integer.MIN_VALUE, GREATEST_INT = Integer.MAX_VALUE;

    interface Body {
        void look(Due due);
    }

    record Sentence(String section, String words, Body body) {
        String name() {
            return section + ", \"" + words + "\"";
        }
    }

    private final List<Sentence> sentences = new ArrayList<>();
    private String section = "";

    /** Tells all sentences by of and says. */
    abstract void tell();

    /** All sentences of all sections. */
    static List<Sentence> all() {
        List<Sentence> all = new ArrayList<>();
        for (Said said : List.of(new CanalTermsSaid(), new TurnsTermsSaid(), new TradesTermsSaid(), new TextTermsSaid(),
                new AskedTermsSaid(), new ToldTermsSaid(), new TapesTermsSaid(), new FieldsSaid(), new TextSaid(),
                new TurnsSaid(), new TradesSaid(), new SeenSaid(), new PlansSaid(), new TapesSaid())) {
            said.tell();
            all.addAll(said.sentences);
        }
        return all;
    }

    void of(String heading) {
        section = heading;
    }

    void says(String words, Body body) {
        sentences.add(new Sentence(section, words, body));
    }
}
