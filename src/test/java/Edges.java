import java.util.List;

/**
 * Tests that each tell a sentence of the document, by the number of a promise at which it can be seen
 * whether it holds; {@link Told} compares the sentences with those that the document has.
 */
final class Edges {
    static final String ARGUMENT = "IllegalArgumentException";
    static final String BOUNDS = "IndexOutOfBoundsException";
    static final String STATE = "IllegalStateException";

    /** A call, or a run of calls, on an engine. */
    interface Act {
        Object on(QuarryIndex x);
    }

    /** Calls that bring a new engine into a state. */
    interface Recipe {
        void make(QuarryIndex x);
    }

    private final Check check = new Check("EdgesTest");
    private final Told told = new Told();
    private String now = "";

    /** One test of one sentence; one that looks at no answer is a wrong one. */
    void sentence(int promise, String sentence, Runnable test) {
        now = "Promise " + promise + ", \"" + sentence + "\"";
        told.addSentence(promise, sentence);
        int before = check.looked();
        run(test);
        check.same(now + " has looked", check.looked() > before + 1, true);
    }

    /** A test that ends by an exception is a wrong one, and the others are run all the same. */
    private void run(Runnable test) {
        Object outcome = Check.outcome(() -> {
            test.run();
            return "an end";
        });
        same("the test comes to", outcome, "an end");
    }

    void same(String what, Object got, Object due) {
        check.same(now + ": " + what, got, due);
    }

    void refused(String what, String exception, QuarryIndex x, Act act) {
        same(what, Check.outcome(() -> act.on(x)), "throws." + exception);
    }

    static Act[] wrong(Act... acts) {
        return acts;
    }

    static Act[] right(Act... acts) {
        return acts;
    }

    /** What the document refuses is refused and changes nothing; what stands just beside it is not refused. */
    void refusal(int promise, String exception, String clause, Recipe state, Act[] wrong, Act[] right) {
        now = "Promise " + promise + ", throws " + exception + " if \"" + clause + "\"";
        told.addRefusal(promise, exception, clause);
        told.addSentence(promise, "A method that throws an exception changes nothing");
        run(() -> changesNothing(exception, state, wrong));
        for (int index = 0; index < right.length; index++) {
            Act act = right[index];
            String outcome = String.valueOf(Check.outcome(() -> act.on(made(state))));
            same("right call " + index + " is not refused", outcome.startsWith("throws.") ? outcome : "", "");
        }
    }

    /** Calls to each of which several exceptions apply. */
    void namedFirst(int promise, String exception, Recipe state, Act... acts) {
        String sentence = "If several exceptions apply, the one that is named first is thrown";
        now = "Promise " + promise + ", \"" + sentence + "\"";
        told.addSentence(promise, sentence);
        run(() -> changesNothing(exception, state, acts));
    }

    private void changesNothing(String exception, Recipe state, Act[] acts) {
        List<String> before = Stock.told(state);
        for (int index = 0; index < acts.length; index++) {
            Act act = acts[index];
            refused("call " + index, exception, made(state), act);
            List<String> behind = Stock.told(x -> {
                state.make(x);
                Check.outcome(() -> act.on(x));
            });
            for (int part = 0; part < before.size(); part++) {
                sameText("call " + index + " changes nothing, part " + part, behind.get(part), before.get(part));
            }
        }
    }

    /** Long texts are told from a little ahead of the first sign in which they differ. */
    private void sameText(String what, String got, String due) {
        int same = 0;
        while (same < got.length() && same < due.length() && got.charAt(same) == due.charAt(same)) {
            same++;
        }
        int from = Math.max(0, same - 20);
        boolean isSame = got.equals(due);
        same(what, isSame ? "" : got.substring(from, Math.min(got.length(), from + 60)),
                isSame ? "" : due.substring(from, Math.min(due.length(), from + 60)));
    }

    static QuarryIndex made(Recipe state) {
        QuarryIndex x = new QuarryIndex();
        state.make(x);
        return x;
    }

    void end() {
        for (String missing : told.differences()) {
            check.same(missing, true, false);
        }
        check.end();
    }
}
