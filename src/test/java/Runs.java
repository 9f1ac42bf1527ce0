import java.util.List;

/** Runs of calls, each on a new object, under the sentence of the document that they test. */
final class Runs {
    private Runs() {
    }

    static void run(String sentence, String... rows) {
        List<Step> steps = Step.of(rows);
        Counted till = new Counted();
        for (int i = 0; i < steps.size(); i++) {
            Step step = steps.get(i);
            String answer = till.answer(step);
            String call = sentence + " / call " + (i + 1) + ": " + step;
            Check.due(call, step.isAnswered(answer) ? step.due() : answer, step.due());
            if (step.isRefused()) {
                dueUnchanged(call, steps.subList(0, i), step);
            }
        }
    }

    /** An object that has refused the call and one that was never asked answer all else alike. */
    private static void dueUnchanged(String call, List<Step> before, Step refused) {
        Check.due("seen from outside after " + call,
                Probe.look(replayed(before, refused)), Probe.look(replayed(before, null)));
        Check.due("hidden behind " + call,
                Probe.use(replayed(before, refused)), Probe.use(replayed(before, null)));
    }

    private static Counted replayed(List<Step> before, Step refused) {
        Counted till = new Counted();
        for (Step step : before) {
            if (!step.isRefused()) {
                till.answer(step);
            }
        }
        if (refused != null) {
            till.answer(refused);
        }
        return till;
    }
}
