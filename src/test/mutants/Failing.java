import java.util.ArrayList;
import java.util.List;

/** The sentences whose tests fail, told for Mutants. */
public final class Failing {
    private Failing() {
    }

    public static String[] names() {
        List<String> names = new ArrayList<>();
        for (Said.Sentence sentence : Said.all()) {
            Due due = new Due(true);
            try {
                sentence.body().look(due);
                if (due.wrong() > 0) {
                    names.add(sentence.name());
                }
            } catch (RuntimeException e) {
                names.add(sentence.name());
            }
        }
        return names.toArray(new String[0]);
    }
}
