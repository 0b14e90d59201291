import java.util.List;

/**
 * Runs the tests of single sentences. Each one must hold for the class and for the model (so that no answer
 * that is due rests on one program alone), and must fail for each model that breaks the sentence: a test that
 * does not see its own sentence broken proves nothing.
 */
final class Sentences {
    interface Test {
        void hold(Trial trial);
    }

    private final Checks all = new Checks();
    private final String name;

    Sentences(String name) {
        this.name = name;
    }

    void holds(String sentence, Test test, Trial.Maker... breaks) {
        all.same(sentence + ": ShelfMarks", "", faults(test, Real::new));
        all.same(sentence + ": the model", "", faults(test, Model::new));
        all.same(sentence + ": there is a model that breaks it", 1, breaks.length > 0 ? 1 : 0);
        for (int i = 0; i < breaks.length; i++) {
            boolean isSeen = !faults(test, breaks[i]).isEmpty();
            all.same(sentence + ": its test sees the broken model no. " + i, 1, isSeen ? 1 : 0);
        }
    }

    private static String faults(Test test, Trial.Maker maker) {
        Trial trial = new Trial(maker);
        try {
            test.hold(trial);
        } catch (RuntimeException | AssertionError e) {
            trial.checks.fault("the test was ended by " + e);
        }
        List<String> faults = trial.checks.faults();
        return String.join("; ", faults.subList(0, Math.min(faults.size(), 5)));
    }

    void end() {
        all.end(name);
    }
}
