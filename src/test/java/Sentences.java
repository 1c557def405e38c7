import java.util.List;

/** Tests of sentences of the document: each by runs of calls, every run on a new object. */
final class Sentences {
    /** What later calls answer is free. */
    static final int MOST_CALLS = 512;

    private final Expect e = new Expect();

    void part(String name) {
        e.part(name);
    }

    /** The sentence, and runs that hold if it does. */
    void says(String sentence, String... runs) {
        for (String run : runs) {
            YearTags x = new YearTags();
            List<Call> calls = Call.read(run);
            int asked = 0;
            for (int i = 0; i < calls.size(); i++) {
                Call call = calls.get(i);
                int got = call.on(x);
                if (call.hasDue()) {
                    asked++;
                    e.due("\"" + sentence + "\": call " + (i + 1) + ", " + call, call.due(), got);
                }
            }
            e.that("\"" + sentence + "\": a run asks something, in at most " + MOST_CALLS + " calls",
                asked > 0 && calls.size() <= MOST_CALLS);
        }
    }

    void end() {
        e.end();
    }
}
