/** Counts and prints the answers that are not due. */
final class Expect {
    private int wrong = 0;
    private int seen = 0;
    private String part = "";

    void part(String name) {
        part = name;
    }

    /** One more answer that is as due, without the cost of naming the call. */
    void right() {
        seen++;
    }

    void due(String call, long want, long got) {
        seen++;
        if (want != got) {
            wrong++;
            System.out.println(part + ": " + call + " answered " + got + ", due is " + want);
        }
    }

    void that(String what, boolean holds) {
        due(what, 1, holds ? 1 : 0);
    }

    void end() {
        System.out.println(wrong == 0 ? "all " + seen + " answers are as due" : wrong + " of " + seen + " answers are not as due");
        if (wrong != 0) {
            System.exit(1);
        }
    }
}
