import java.util.ArrayList;
import java.util.List;

/**
 * "A call that returns an error or NONE changes nothing": after it, all that can be asked answers as before, and also
 * what can be asked after undo(), restore(), another rule, and the text's claimAll(). What only tells changes nothing either.
 */
public final class RefusedCallsTest {
    private static final String[] VIEWS = {"", "undo()", "2 x undo()", "3 x undo()", "4 x undo()", "restore()", "restore(); undo()",
        "set(0, 1)", "set(0, 2)", "set(0, 3)", "claimAll()", "shorten()", "pass(1)", "clearText()"};
    private static final String BAD_INTS = "MIN|-1|MAX";

    /** Three racks with free, full and closed hooks; coats that are here, were returned and are gone; a snapshot, a text. */
    private static final String BUSY = "addRack(3, 3); addRack(2, 5); addRack(1, 1); take(0, 1); take(1, 2); take(2, 3); take(3, 5);"
        + "take(4, 4); open(2, false); claim(#0); giveOut(4, 0); keep(); pass(2); move(#100, 0); move(#100, 1); set(1, 3); type(49); type(44);";
    /** One hook, which holds a coat; two states in the history, no snapshot. */
    private static final String FULL_ROOM = "addRack(1, 5); take(5, 4);";
    /** A hook that holds a coat and a retired one. */
    private static final String RETIRED = "addRack(2, 5); age(1, 99); take(0, 1); take(1, 1); claim(#199);";
    private static final String FIVE_RACKS = "addRack(1, 1); addRack(2, 2); addRack(3, 3); addRack(4, 4); addRack(12, 5); take(0, 5);"
        + "move(#4800, 59);";
    private static final String LAST_DAY = "addRack(1, 5); 166 x pass(60); pass(20); take(0, 5); pass(19);";
    private static final String NEW = "";

    private static final Expect e = new Expect();
    private static final List<Call> QUESTIONS = questions();

    public static void main(String[] args) {
        racksAndSettings();
        coats();
        movesAndDays();
        texts();
        states();
        whatIsTold();
        e.end();
    }

    private static List<Call> questions() {
        StringBuilder all = new StringBuilder("count(0|1|2|3|4|5|6|7|8|9|10|11|12|13|14|15|16|17);"
            + "rack(0|1|2|3|4|5, 0|1|2|3|4|5); event(0|1|2|3|4|5|6|7|8|9|10, 0|1|2); next(1|2|3|4|5);");
        for (int hook = 0; hook < 60; hook++) {
            all.append("hook(" + hook + ", 0|1|2|3|4|5|6|7);");
        }
        for (int guest = 0; guest < 20; guest++) {
            all.append("guest(" + guest + ", 0|1|2);");
        }
        for (int hook : new int[] {0, 1, 2, 3, 12, 13, 14, 24, 48, 59}) {
            String tags = "";
            for (int year : new int[] {0, 1, 2, 3, 98, 99}) {
                tags += (year == 0 ? "#" : "|#") + (100 * hook + year);
            }
            all.append("tag(" + tags + ", 0|1|2|3|4|5); due(" + tags + ");");
        }
        return Call.read(all.toString());
    }

    /** All answers after these calls, from as many new objects as it takes, since one serves for 512 calls alone. */
    private static int[] answers(List<Call> made) {
        int[] answers = new int[QUESTIONS.size()];
        YearTags x = null;
        int left = 0;
        for (int i = 0; i < answers.length; i++) {
            if (left == 0) {
                x = new YearTags();
                for (Call call : made) {
                    call.on(x);
                }
                left = Sentences.MOST_CALLS - made.size();
            }
            answers[i] = QUESTIONS.get(i).on(x);
            left--;
        }
        return answers;
    }

    private static List<Call> join(List<Call> calls, List<Call> more) {
        List<Call> all = new ArrayList<>(calls);
        all.addAll(more);
        return all;
    }

    private static void changeNothing(String made, String... calls) {
        List<Call> before = Call.read(made);
        List<int[]> due = new ArrayList<>();
        for (String view : VIEWS) {
            due.add(answers(join(before, Call.read(view))));
        }
        for (String text : calls) {
            for (Call call : Call.read(text)) {
                changesNothing(before, call, due);
            }
        }
    }

    private static void changesNothing(List<Call> before, Call call, List<int[]> due) {
        YearTags x = new YearTags();
        for (Call one : before) {
            one.on(x);
        }
        int got = call.on(x);
        e.due("" + call, call.hasDue() ? call.due() : got, got);
        for (int view = 0; view < VIEWS.length; view++) {
            int[] answers = answers(join(before, join(List.of(call), Call.read(VIEWS[view]))));
            for (int i = 0; i < answers.length; i++) {
                if (answers[i] == due.get(view)[i]) {
                    e.right();
                } else {
                    e.due("after " + call + " " + VIEWS[view] + ": " + QUESTIONS.get(i), due.get(view)[i], answers[i]);
                }
            }
        }
    }

    private static void racksAndSettings() {
        e.part("addRack");
        changeNothing(BUSY, "addRack(0|13|MIN|-1|MAX, 1) = BAD_VALUE", "addRack(1, 0|6|MIN|-1|MAX) = BAD_VALUE");
        changeNothing(FIVE_RACKS, "addRack(1, 1) = FULL", "addRack(12, 5) = FULL", "addRack(0, 1) = BAD_VALUE");
        e.part("open");
        changeNothing(BUSY, "open(3|MIN|-1|MAX, true|false) = UNKNOWN", "open(0|1, true) = NONE", "open(2, false) = NONE");
        changeNothing(FULL_ROOM, "open(0, true) = NONE", "open(1, false) = UNKNOWN");
        e.part("age");
        changeNothing(BUSY,
            "age(3|14|25|60|MIN|-1|MAX, 50) = UNKNOWN", "age(0, 0|1|2|100|MIN|MAX) = BAD_VALUE", "age(1, 2|99) = NOT_POSSIBLE",
            "age(12, 1|99) = NOT_POSSIBLE");
        changeNothing(RETIRED, "age(1, 99|100|MAX|0) = BAD_VALUE", "age(0, 1|99) = NOT_POSSIBLE");
        e.part("set");
        changeNothing(BUSY,
            "set(MIN|-1|3|MAX, 1) = BAD_VALUE", "set(0, -1|4|MIN|MAX) = BAD_VALUE", "set(1, -1|51|MIN|MAX) = BAD_VALUE",
            "set(2, 0|100|MIN|MAX) = BAD_VALUE", "set(0, 0) = NONE", "set(1, 3) = NONE", "set(2, 30) = NONE");
        changeNothing(NEW, "set(0, 0) = NONE", "set(1, 2) = NONE", "set(2, 30) = NONE", "set(0, 4) = BAD_VALUE");
    }

    private static void coats() {
        e.part("take");
        changeNothing(BUSY, "take(20|" + BAD_INTS + ", 1) = UNKNOWN", "take(0, 0|6|" + BAD_INTS + ") = BAD_VALUE");
        changeNothing(FULL_ROOM, "take(0, 1|5) = FULL");
        changeNothing(RETIRED, "take(0, 1|5) = FULL");
        changeNothing(NEW, "take(0, 1) = FULL", "take(20, 1) = UNKNOWN");
        for (String call : new String[] {"claim(T)", "move(T, 13)", "due(T)"}) {
            e.part(call);
            changeNothing(BUSY,
                call.replace("T", "1|60000|60008|" + BAD_INTS) + " = BAD_VALUE", call.replace("T", "#3|#1301|59998") + " = UNKNOWN",
                call.replace("T", "#0") + " = RETURNED", call.replace("T", "#1300") + " = GONE");
            changeNothing(NEW, call.replace("T", "0|59998") + " = UNKNOWN", call.replace("T", "1") + " = BAD_VALUE");
            changeNothing(FULL_ROOM + "pass(31);", call.replace("T, 13", "T, 0").replace("T", "#0") + " = GONE");
        }
        e.part("giveOut");
        changeNothing(BUSY,
            "giveOut(20|" + BAD_INTS + ", 0) = UNKNOWN", "giveOut(1, 1|" + BAD_INTS + ") = UNKNOWN", "giveOut(0|4|19, 0) = UNKNOWN");
        changeNothing(FULL_ROOM, "giveOut(5, 1) = UNKNOWN", "giveOut(6, 0) = UNKNOWN");
    }

    private static void movesAndDays() {
        e.part("move");
        changeNothing(BUSY,
            "move(#100, 3|14|25|60|" + BAD_INTS + ") = UNKNOWN", "move(#1, 1|2|12|24) = NOT_POSSIBLE", "move(#1200, 0) = NOT_POSSIBLE");
        changeNothing(RETIRED, "move(0, 0|1) = NOT_POSSIBLE", "move(0, 2) = UNKNOWN");
        e.part("moveAll");
        changeNothing(BUSY,
            "moveAll(0, 3|" + BAD_INTS + ") = UNKNOWN", "moveAll(3|" + BAD_INTS + ", 0) = UNKNOWN", "moveAll(0, 0) = BAD_VALUE",
            "moveAll(0, 1|2) = NOT_POSSIBLE", "moveAll(1, 0) = NOT_POSSIBLE", "moveAll(2, 0|1) = NONE");
        changeNothing("addRack(2, 5); addRack(2, 4); take(0, 4); take(0, 5);",
            "moveAll(0, 1) = NOT_POSSIBLE", "moveAll(1, 0) = NONE", "moveAll(1, 1) = BAD_VALUE");
        e.part("shorten");
        changeNothing(NEW, "shorten() = NONE");
        changeNothing(FULL_ROOM, "shorten() = NONE");
        changeNothing(BUSY + "shorten();", "shorten() = NONE");
        changeNothing("addRack(2, 5); take(0, 1); move(0, 1);", "shorten() = NONE");
        e.part("pass");
        changeNothing(BUSY, "pass(0|61|" + BAD_INTS + ") = BAD_VALUE");
        changeNothing(LAST_DAY, "pass(1|60) = NOT_POSSIBLE", "pass(0|61|" + BAD_INTS + ") = BAD_VALUE");
        changeNothing("addRack(1, 5); 165 x pass(60); take(0, 5); pass(20); pass(20);", "pass(60) = NOT_POSSIBLE");
    }

    private static void texts() {
        e.part("type");
        changeNothing(BUSY + "57 x type(49); type(44);", "type(48|44|0|65535) = FULL");
        e.part("claimAll");
        changeNothing(BUSY, "claimAll() = -102");
        changeNothing(BUSY + "type(48);", "claimAll() = BAD_VALUE");
        String valid = "clearText(); text(#100,#1200,";
        changeNothing(BUSY + valid + "#100);", "claimAll() = RETURNED");
        changeNothing(BUSY + valid + "#1);", "claimAll() = RETURNED");
        changeNothing(BUSY + valid + "#0);", "claimAll() = RETURNED");
        changeNothing(BUSY + valid + "#1300);", "claimAll() = GONE");
        changeNothing(BUSY + valid + "#1301);", "claimAll() = UNKNOWN");
        changeNothing(BUSY + valid + "99999);", "claimAll() = BAD_VALUE");
        changeNothing(BUSY + valid + "00);", "claimAll() = -112");
        changeNothing(BUSY + valid + ");", "claimAll() = -111");
        changeNothing(BUSY + valid + "#200,#200);", "claimAll() = RETURNED");
        changeNothing(NEW, "claimAll() = -100", "clearText() = 0");
        changeNothing(BUSY + "clearText();", "claimAll() = -100", "clearText() = 0");
    }

    private static void states() {
        e.part("undo, restore");
        changeNothing(NEW, "undo() = NONE", "restore() = NONE");
        changeNothing(FULL_ROOM + "2 x undo();", "undo() = NONE", "restore() = NONE");
        changeNothing("addRack(1, 5); take(0, 1); keep(); 2 x undo(); type(48);", "undo() = NONE");
        changeNothing(FULL_ROOM + "4 x type(48);", "restore() = NONE");
    }

    private static void whatIsTold() {
        String[] told = {"rack(0|3|-1, 0|3|4|5|6|-1|MAX)", "hook(0|1|3|12|14|24|MIN, 0|1|3|6|7|8|MAX)",
            "tag(0|#100|#1200|#1300|#3|1, 0|1|3|4|5|6|-1)", "tagOf(0|5999|6000|-1|MIN)", "guest(0|1|20|-1, 0|1|2|3|MAX)",
            "next(1|5|0|6|MIN)", "due(0|#100|#1200|#1300|#3|1|MAX)", "event(0|9|10|-1|MAX, 0|2|3|MIN)",
            "count(0|3|5|11|12|16|17|18|-1|MAX)"};
        for (String questions : told) {
            e.part("what is told: " + questions);
            changeNothing(BUSY, questions);
        }
        e.part("what is told, in a new object");
        changeNothing(NEW, "rack(0, 0)", "hook(0, 0)", "tag(0, 0)", "guest(0, 1)", "next(1)", "due(0)", "event(0, 0)", "count(12)");
    }
}
