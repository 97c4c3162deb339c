import java.util.ArrayList;
import java.util.List;

/** Which of the sentences' tests fail, told for Mutants: by numbers, as a sentence may have several. */
public final class Failing {
    private Failing() {
    }

    public static Integer[] numbers() {
        List<Said.Sentence> sentences = Said.all();
        List<Integer> failing = new ArrayList<>();
        for (int i = 0; i < sentences.size(); i++) {
            if (isFailing(sentences.get(i))) {
                failing.add(i);
            }
        }
        return failing.toArray(new Integer[0]);
    }

    private static boolean isFailing(Said.Sentence sentence) {
        Due due = new Due(true);
        try {
            sentence.body().look(due);
            return due.wrong() > 0;
        } catch (RuntimeException e) {
            return true;
        }
    }
}
