/** The sentences under "Terms" that name a bound, a first value, or an order: each has a test of its own. */
public final class EdgesOfTermsTest {
    private static final Sentences s = new Sentences();

    /** The ways by which the coat of guest 0 leaves the hook 0, where its handle is #Y; the rack 1 has one free hook. */
    private static final String[] WAYS = {"claim(#Y)", "giveOut(0, 0)", "move(#Y, 12)", "moveAll(0, 1)", "pass(31)", "text(#Y); claimAll()"};

    public static void main(String[] args) {
        racks();
        hooks();
        leavingAHook();
        freeHooks();
        handles();
        ways();
        ends();
        rules();
        rulesByLeaving();
        days();
        money();
        auctions();
        log();
        texts();
        textOfTags();
        fullTexts();
        history();
        longRuns();
        whatRecords();
        snapshot();
        restoredStates();
        restoredOverOthers();
        tagErrors();
        s.end();
    }

    private static void racks() {
        s.part("racks and hooks");
        s.says("There are at most 5 racks, numbered from 0 in the order in which they were added",
            "count(1) = 0; rack(0, 0) = UNKNOWN; addRack(1, 5) = 0; addRack(2, 4) = 1; addRack(3, 3) = 2; addRack(4, 2) = 3; count(1) = 4;"
            + "rack(4, 0) = UNKNOWN; addRack(5, 1) = 4; count(1) = 5; addRack(6, 1) = FULL; count(1) = 5; rack(0, 0) = 1; rack(1, 0) = 2;"
            + "rack(2, 0) = 3; rack(3, 0) = 4; rack(4, 0) = 5; rack(5, 0) = UNKNOWN");
        s.says("A rack has 1 to 12 hooks",
            "addRack(0|-1|MIN|13|MAX, 1) = BAD_VALUE; count(1) = 0; addRack(1, 1) = 0; addRack(12, 1) = 1; rack(0, 0) = 1; rack(1, 0) = 12;"
            + "count(2) = 13");
        s.says("a size (1 to 5)",
            "addRack(1, 0|-1|MIN|6|MAX) = BAD_VALUE; count(1) = 0; addRack(1, 1) = 0; addRack(1, 5) = 1; rack(0, 1) = 1; rack(1, 1) = 5");
        s.says("and is open (at first) or closed",
            "addRack(1, 5); rack(0, 2) = 1; open(0, true) = NONE; open(0, false) = 0; rack(0, 2) = 0; open(0, false) = NONE;"
            + "open(0, true) = 0; rack(0, 2) = 1");
    }

    private static void hooks() {
        s.says("The hook h (from 0) of the rack r has the number 12 * r + h",
            "addRack(1, 5); addRack(12, 5); hook(0, 0) = 0; hook(1|11, 0) = UNKNOWN; hook(12|23, 0) = 0; hook(24, 0) = UNKNOWN",
            "5 x addRack(12, 5); hook(0|11|12|59, 0) = 0; hook(60|-1|-12|MIN|MAX, 0) = UNKNOWN",
            "4 x addRack(12, 1); addRack(2, 5); take(0, 5) = #4800; take(0, 5) = #4900; hook(48|49, 1) = 1; hook(50|59, 1) = UNKNOWN");
        s.says("A hook has a year from 0 (at first) to 99",
            "addRack(2, 5); hook(0|1, 0) = 0; age(0, 100|MAX|-1|MIN) = BAD_VALUE; age(0, 99) = 0; hook(0, 0) = 99; hook(1, 0) = 0",
            "addRack(2, 5); age(0, 98) = 0; take(0, 1) = #98; claim(#98); hook(0, 0) = 99; hook(0, 2) = 0; take(0, 1) = #99; claim(#99);"
            + "hook(0, 0) = 99; hook(0, 2) = 1");
        s.says("and holds one coat or none",
            "addRack(1, 5); hook(0, 1) = 0; rack(0, 3) = 0; take(0, 1) = #0; hook(0, 1) = 1; take(0, 1) = FULL; rack(0, 3) = 1;"
            + "count(3) = 1",
            "addRack(1, 5); addRack(1, 5); take(0, 1); take(1, 1); move(#0, 12) = NOT_POSSIBLE; moveAll(0, 1) = NOT_POSSIBLE;"
            + "hook(0, 3) = 0; hook(12, 3) = 1");
    }

    private static void leavingAHook() {
        for (String way : WAYS) {
            for (int year : new int[] {0, 1, 97, 98}) {
                s.says("When a coat leaves a hook, by whatever way, the year of the hook becomes greater by 1 (" + way + ")",
                    leave(way, year) + "hook(0, 0) = " + (year + 1) + "; hook(0, 1|2) = 0; hook(0, 3|4|5|6) = NONE; hook(0, 7) = 1;"
                    + "count(4) = 0");
            }
            s.says("if it is 99 already, the hook is retired (" + way + ")",
                leave(way, 99) + "hook(0, 0) = 99; hook(0, 2) = 1; hook(0, 1) = 0; hook(0, 3|4|5|6) = NONE; hook(0, 7) = 1; count(4) = 1;"
                + "rack(0, 4) = 1; rack(1, 4) = 0; undo(); hook(0, 2) = 0; hook(0, 1) = 1; count(4) = 0");
            s.says("and never holds a coat again (" + way + ")",
                leave(way, 99) + "open(1, false); next(1) = NONE; take(1, 1) = FULL; open(1, true); take(1, 1); hook(12, 1) = 1;"
                + "move(#1200, 0) = NOT_POSSIBLE; moveAll(1, 0) = NOT_POSSIBLE; age(0, 99|100) = BAD_VALUE; hook(0, 1) = 0; hook(0, 2) = 1");
        }
        s.says("the hook is retired: all of them are",
            "addRack(2, 5); age(0, 99); age(1, 99); take(0, 1) = #99; take(0, 1) = #199; count(4) = 0; claim(#99); count(4) = 1;"
            + "next(1) = NONE; claim(#199); rack(0, 4) = 2; count(4) = 2; take(0, 1) = FULL; count(2) = 2; count(3) = 0; rack(0, 5) = 198");
    }

    private static String leave(String way, int year) {
        String age = year == 0 ? "" : "age(0, " + year + ") = 0;";
        return "addRack(1, 5); addRack(1, 5);" + age + "take(0, 1) = #" + year + ";" + way.replace("#Y", "#" + year) + ";";
    }

    private static void freeHooks() {
        String[] runs = {
            "addRack(1, <size>); next(<size>) = 0; next(<greater>) = NONE; take(0, <greater>) = FULL; take(0, <size>) = #0",
            "addRack(1, 5); addRack(1, <size>); take(0, <greater>); move(#0, 12) = NOT_POSSIBLE; moveAll(0, 1) = NOT_POSSIBLE",
            "addRack(1, 5); addRack(1, <size>); take(0, <size>); move(#0, 12) = #1200",
            "addRack(1, 5); addRack(1, <size>); take(0, <size>); moveAll(0, 1) = 1"};
        for (int size = 1; size <= 4; size++) {
            for (String run : runs) {
                s.says("A hook is free for a coat if the size of the coat is not greater than the size of the rack",
                    run.replace("<size>", "" + size).replace("<greater>", "" + (size + 1)));
            }
        }
        s.says("A hook is free for a coat: a rack of size 5 takes all of them",
            "addRack(5, 5); take(0, 1) = #0; take(0, 2) = #100; take(0, 3) = #200; take(0, 4) = #300; take(0, 5) = #400;"
            + "take(0, 6) = BAD_VALUE");
        s.says("A hook is free for a coat if it holds none",
            "addRack(2, 5); take(0, 1) = #0; next(1) = 1; move(#0, 0) = NOT_POSSIBLE; take(0, 1) = #100; next(1) = NONE; take(0, 1) = FULL;"
            + "move(#0, 1) = NOT_POSSIBLE; claim(#0); next(1) = 0; move(#100, 0) = #1");
        s.says("A hook is free for a coat if it is not retired",
            "addRack(2, 5); age(0, 99); take(0, 1) = #99; claim(#99); next(1) = 1; take(0, 1) = #100; move(#100, 0) = NOT_POSSIBLE;"
            + "next(1) = NONE");
        s.says("A hook is free for a coat if its rack is open",
            "addRack(1, 5); addRack(1, 5); open(1, false); take(0, 1) = #0; next(1) = NONE; take(0, 1) = FULL; move(#0, 12) = NOT_POSSIBLE;"
            + "moveAll(0, 1) = NOT_POSSIBLE; open(1, true); next(1) = 12; moveAll(0, 1) = 1",
            "addRack(2, 5); take(0, 1) = #0; open(0, false); move(#0, 1) = NOT_POSSIBLE; open(0, true); move(#0, 1) = #100");
        s.says("The hooks of a rack are full at its last one",
            "addRack(12, 5); 11 x take(0, 1); next(1) = 11; take(0, 1) = #1100; next(1) = NONE; take(0, 1) = FULL; rack(0, 3) = 12",
            "5 x addRack(12, 5); 59 x take(0, 5); next(5) = 59; take(0, 5) = #5900; next(1) = NONE; take(0, 1) = FULL; count(3) = 60;"
            + "guest(0, 0) = 60; giveOut(0, 60) = UNKNOWN; giveOut(0, 59) = 52; next(1) = 59");
    }

    private static void handles() {
        s.part("handles and tags");
        s.says("The handle of a coat on a hook is 100 * hook + year of the hook",
            "addRack(2, 5); take(0, 1) = #0; take(0, 1) = #100; hook(1, 6) = #100; event(0, 1) = 100; claim(#100); take(0, 1) = #101;"
            + "event(0, 1) = 101",
            "4 x addRack(12, 1); addRack(12, 5); 11 x take(0, 5); age(59, 99); take(0, 5) = 59998; event(0, 1) = 5999; hook(59, 6) = 59998;"
            + "tag(59998, 0) = 59; claim(59998) = 2; hook(59, 2) = 1; tag(59998, 2) = 1");
        s.says("So no handle is ever given twice",
            "addRack(1, 5); take(0, 1) = #0; claim(#0); age(0, 5); take(1, 1) = #5; count(5) = 2; claim(#0) = RETURNED;"
            + "tag(#1, 0) = UNKNOWN");
        s.says("A tag is 10 * handle + check, (3 * a + b + 7 * c + 9 * d) % 10",
            "tagOf(0) = 0; tagOf(1) = 19; tagOf(9) = 91; tagOf(10) = 107; tagOf(90) = 903; tagOf(99) = 994; tagOf(100) = 1001;"
            + "tagOf(900) = 9009; tagOf(999) = 9993; tagOf(1000) = 10003; tagOf(5000) = 50005; tagOf(5999) = 59998");
        for (int first = 0; first < 6000; first += 500) {
            StringBuilder run = new StringBuilder();
            for (int handle = first; handle < first + 500; handle++) {
                run.append("tagOf(" + handle + ") = #" + handle + ";");
            }
            s.says("A tag is 10 * handle + check, from " + first, run.toString());
        }
        s.says("When a coat is moved, the old handle is followed by the new one, and the tag of the old one is still valid",
            "addRack(3, 5); take(7, 1) = #0; tag(#0, 4) = NONE; move(#0, 1) = #100; tag(#0, 4) = #100; hook(1, 6) = #100;"
            + "move(#0, 2) = #200; tag(#0, 4) = #100; tag(#100, 4) = #200; tag(#200, 4) = NONE; tag(#0|#100|#200, 3) = #200;"
            + "tag(#0|#100|#200, 0) = 2; tag(#0|#100|#200, 5) = 7; due(#0|#100|#200) = 2; claim(#100) = 2; due(#0|#100|#200) = RETURNED",
            "addRack(2, 5); take(0, 1) = #0; move(#0, 1) = #100; take(1, 1) = #1; tag(#0, 0) = 1; tag(#1, 0) = 0; tag(#0, 5) = 0;"
            + "tag(#1, 5) = 1");
    }

    private static String moves(int howMany, int hooks) {
        StringBuilder run = new StringBuilder("addRack(" + hooks + ", 5); take(0, 1);");
        for (int i = 1; i <= howMany; i++) {
            run.append("move(#0, " + i % hooks + ") = #" + (100 * (i % hooks) + i / hooks) + ";");
        }
        return run.toString();
    }

    private static void ways() {
        s.says("The way of a handle is the number of handles that follow it until the last one",
            "count(12) = 0; addRack(1, 5); count(12) = 0; take(0, 1); tag(#0, 1) = 0; count(12) = 0",
            moves(3, 4) + "tag(#0, 1) = 3; tag(#100, 1) = 2; tag(#200, 1) = 1; tag(#300, 1) = 0; count(12) = 3; claim(#0); tag(#0, 1) = 3;"
            + "count(12) = 3",
            moves(199, 2) + "count(12) = 199; tag(#0, 1) = 199; tag(#100, 1) = 198; tag(#99, 1) = 1; tag(#199, 1) = 0; tag(#0, 3) = #199;"
            + "hook(0, 2) = 1; hook(1, 0) = 99; hook(1, 2) = 0; move(#0, 0) = NOT_POSSIBLE; claim(#0) = 2; count(4) = 2;"
            + "due(#99) = RETURNED");
        s.says("An object is used for at most 512 calls: the last of them",
            moves(509, 12) + "tag(#0, 1) = 509",
            moves(509, 12) + "count(12) = 509",
            moves(509, 12) + "shorten() = 508",
            moves(509, 12) + "tag(#0, 3) = #542",
            moves(509, 12) + "claim(#0) = 2");
        s.says("When ways are shortened, each handle that is followed by another one is followed by the last one at once",
            moves(3, 4) + "shorten() = 2; tag(#0|#100|#200, 4) = #300; tag(#300, 4) = NONE; tag(#0|#100|#200, 1) = 1; tag(#300, 1) = 0;"
            + "count(12) = 1",
            moves(505, 12) + "shorten() = 504; tag(#0, 1) = 1; tag(#0, 4) = #142; count(12) = 1; undo() = 3");
    }

    private static void ends() {
        s.says("The end of a handle is told for the last one to which one gets: 0 to 3",
            "addRack(2, 5); take(0, 1) = #0; tag(#0, 2) = 0; move(#0, 1); tag(#0|#100, 2) = 0; claim(#100); tag(#0|#100, 2) = 1;"
            + "tag(#0|#100, 0) = NONE",
            "addRack(2, 5); take(0, 1) = #0; move(#0, 1); giveOut(0, 0); tag(#0|#100, 2) = 2; tag(#0|#100, 0) = NONE",
            "addRack(2, 5); take(0, 1) = #0; move(#0, 1); pass(31); tag(#0|#100, 2) = 3; tag(#0|#100, 0) = NONE",
            "addRack(2, 5); take(0, 1) = #0; move(#0, 1); text(#0); claimAll(); tag(#0|#100, 2) = 1; tag(#0|#100, 0) = NONE");
    }

    private static void rules() {
        s.part("taking in");
        s.says("The rule: 0 (at first) the one with the lowest number",
            "count(13) = 0; addRack(3, 5); 3 x take(0, 1); claim(#200); claim(#100); next(1) = 1; take(0, 1) = #101; take(0, 1) = #201;"
            + "take(0, 1) = FULL",
            "addRack(2, 5); addRack(2, 5); age(0, 99); next(1) = 0; take(0, 1) = #99; next(1) = 1");
        s.says("1 the one that a coat left latest",
            "addRack(3, 5); 3 x take(0, 1); claim(#0); claim(#200); claim(#100); set(0, 1) = 0; next(1) = 1; take(0, 1) = #101;"
            + "next(1) = 2; take(0, 1) = #201; next(1) = 0; take(0, 1) = #1; next(1) = NONE; take(0, 1) = FULL");
        s.says("2 the one that a coat left longest ago",
            "addRack(3, 5); 3 x take(0, 1); claim(#100); claim(#0); claim(#200); set(0, 2) = 0; next(1) = 1; take(0, 1) = #101;"
            + "next(1) = 0; take(0, 1) = #1; next(1) = 2; take(0, 1) = #201; next(1) = NONE; take(0, 1) = FULL");
        s.says("1 and 2: it is the latest time that a coat left the hook",
            "addRack(2, 5); 2 x take(0, 1); claim(#0); claim(#100); take(0, 1) = #1; claim(#1); set(0, 1); next(1) = 0; set(0, 2);"
            + "next(1) = 1");
        s.says("3 the one with the lowest year",
            "addRack(3, 5); age(0, 99); age(1, 98); age(2, 97); set(0, 3); take(0, 1) = #297; take(0, 1) = #198; take(0, 1) = #99;"
            + "take(0, 1) = FULL");
        s.says("Of several, the one with the lowest number",
            "addRack(3, 5); addRack(1, 5); set(0, 1); next(1) = 0; take(0, 1) = #0; next(1) = 1; take(0, 1) = #100; take(0, 1) = #200;"
            + "take(0, 1) = #1200",
            "addRack(3, 5); addRack(1, 5); set(0, 2); next(1) = 0; take(0, 1) = #0; next(1) = 1; take(0, 1) = #100; take(0, 1) = #200;"
            + "take(0, 1) = #1200",
            "addRack(3, 5); addRack(1, 5); age(0, 1); set(0, 3); take(0, 1) = #100; take(0, 1) = #200; take(0, 1) = #1200; take(0, 1) = #1",
            "addRack(3, 5); age(0, 2); age(1, 1); age(2, 1); set(0, 3); take(0, 1) = #101; take(0, 1) = #201; take(0, 1) = #2");
        s.says("which of the hooks that are free for a coat takes it: by each rule, of these alone",
            "addRack(1, 1); addRack(1, 5); next(1) = 0; next(2) = 12; set(0, 1); next(2) = 12; set(0, 2); next(2) = 12; set(0, 3);"
            + "age(12, 9); next(1) = 0; next(2) = 12");
    }

    private static void rulesByLeaving() {
        String leftIsHigher = "addRack(1, 1); addRack(1, 5); take(0, 5) = #1200; claim(#1200);";
        String leftIsLower = "addRack(1, 5); addRack(1, 5); take(0, 5) = #0; claim(#0);";
        s.says("By the rules 1 and 2 a hook that no coat has left counts as left ahead of all others",
            leftIsHigher + "set(0, 1); next(1) = 12",
            leftIsHigher + "set(0, 2); next(1) = 0",
            leftIsLower + "set(0, 1); next(1) = 0",
            leftIsLower + "set(0, 2); next(1) = 12");
        s.says("by age() nothing leaves it",
            "addRack(2, 5); age(1, 50); set(0, 1); next(1) = 0; hook(1, 7) = 0",
            "addRack(2, 5); age(0, 50); set(0, 2); next(1) = 0; hook(0, 7) = 0",
            "addRack(2, 5); take(0, 1); take(0, 1); claim(#100); claim(#0); age(1, 9); set(0, 1); next(1) = 0; set(0, 2); next(1) = 1;"
            + "hook(1, 7) = 1");
        String three = "addRack(3, 5); 3 x take(0, 1);";
        String latestAndLongest = "; set(0, 1); next(1) = L; set(0, 2); next(1) = A";
        String[][] within = {
            {"a day", "claim(#200); claim(#0); claim(#100)", "1", "2"},
            {"an auction", "pass(31) = 3", "2", "0"},
            {"claimAll()", "text(#200,#0,#100); claimAll() = 6", "1", "2"},
            {"moveAll()", "addRack(3, 5); moveAll(0, 1) = 3; open(1, false)", "2", "0"},
            {"days of moves", "addRack(3, 5); move(#200, 12); giveOut(0, 1); pass(1); claim(#0); open(1, false)", "0", "2"},
        };
        for (String[] way : within) {
            s.says("Each time that a coat leaves counts by itself, also within " + way[0],
                three + way[1] + latestAndLongest.replace("L", way[2]).replace("A", way[3]));
        }
        s.says("Each time that a coat leaves counts by itself, also within the days of a call",
            "addRack(2, 5); 2 x take(0, 1); claim(#0); pass(1); take(0, 1) = #1; set(2, 1); pass(2) = 2; event(1, 1) = 100;"
            + "event(1, 2) = 2; event(0, 1) = 1; event(0, 2) = 3; set(0, 1); next(1) = 0; set(0, 2); next(1) = 1");
    }

    private static void days() {
        s.part("days and money");
        s.says("The day is 0 at first", "count(0) = 0; addRack(1, 5); take(0, 1); hook(0, 5) = 0; event(0, 2) = 0");
        s.says("There are 20 guests, numbered from 0",
            "guest(0|19, 0|1|2) = 0; guest(-1|20|MIN|MAX, 0|1|2) = UNKNOWN",
            "addRack(2, 5); take(-1|20|MIN|MAX, 1) = UNKNOWN; take(0, 1) = #0; take(19, 1) = #100; hook(0, 3) = 0; hook(1, 3) = 19;"
            + "giveOut(-1|20|MIN|MAX, 0) = UNKNOWN; giveOut(19, 0) = 52; giveOut(0, 0) = 52");
        s.says("A coat has the day on which it was taken in",
            "addRack(3, 5); pass(60); take(0, 1); pass(1); take(0, 1); move(#0, 2); hook(2, 5) = 60; hook(1, 5) = 61; hook(0, 5) = NONE");
        s.says("When a day passes, the day becomes greater by 1",
            "pass(1) = 0; count(0) = 1; pass(1) = 0; count(0) = 2; pass(60) = 0; count(0) = 62");
    }

    private static void money() {
        s.says("What is due is size * the rent for each day since then",
            "addRack(2, 5); take(0, 1); take(1, 5); pass(1); due(#0) = 2; due(#100) = 10; pass(1); due(#0) = 4; due(#100) = 20; pass(28);"
            + "due(#0) = 60; due(#100) = 300; guest(0, 1) = 60; guest(1, 1) = 300; claim(#100) = 300; count(11) = 300",
            "addRack(1, 5); take(0, 5); set(1, 50); set(2, 99); pass(60); pass(39) = 0; due(#0) = 5*50*99; guest(0, 1) = 5*50*99;"
            + "giveOut(0, 0) = 5*50*99+50");
        s.says("but at least the rent once, whatever its size",
            "addRack(2, 5); take(0, 1); take(1, 5); due(#0|#100) = 2; guest(0|1, 1) = 2; claim(#0) = 2; giveOut(1, 0) = 52; count(11) = 54",
            "addRack(2, 5); take(0, 5); set(1, 50); due(#0) = 50; pass(1); due(#0) = 250; set(1, 0); due(#0) = 0; claim(#0) = 0;"
            + "count(11) = 0",
            "addRack(1, 5); pass(5); take(0, 5); text(#0); claimAll() = 2");
        s.says("the rent (0 to 50, at first 2)",
            "count(14) = 2; set(1, -1|51|MIN|MAX) = BAD_VALUE; set(1, 0) = 2; set(1, 50) = 0; count(14) = 50");
        s.says("Without a tag, 50 more are due",
            "addRack(1, 5); take(0, 3); pass(2); due(#0) = 12; guest(0, 1) = 12; giveOut(0, 0) = 62; count(11) = 62",
            "addRack(1, 5); set(1, 0); take(0, 3); giveOut(0, 0) = 50; count(11) = 50");
    }

    private static void auctions() {
        s.says("each coat that has been here for more days than the limit (at first 30) is auctioned",
            "count(15) = 30; addRack(1, 5); take(0, 1); pass(30) = 0; count(9) = 0; due(#0) = 60; pass(1) = 1; count(9) = 1;"
            + "due(#0) = GONE; count(3) = 0");
        s.says("the limit (1 to 99)",
            "addRack(1, 5); take(0, 1); set(2, 0|-1|100|MIN|MAX) = BAD_VALUE; set(2, 1) = 30; pass(1) = 0; pass(1) = 1",
            "addRack(1, 5); take(0, 1); set(2, 99) = 30; pass(60) = 0; pass(39) = 0; pass(1) = 1; event(0, 2) = 100");
        s.says("When a day passes, then each coat that has been here for more days than the limit is auctioned: not ahead of it",
            "addRack(1, 5); take(0, 1); pass(20); set(2, 1); count(3) = 1; due(#0) = 40; pass(1) = 1; event(0, 2) = 21; count(0) = 21");
        s.says("a moved coat has been here since it was taken in",
            "addRack(2, 5); take(0, 1); pass(30); move(#0, 1); pass(1) = 1; event(0, 1) = 100; due(#0|#100) = GONE");
        s.says("by the numbers of hooks",
            "addRack(2, 5); addRack(1, 5); 2 x take(0, 1); take(0, 1) = #1200; claim(#0); take(0, 1) = #1; pass(31) = 3; event(2, 1) = 1;"
            + "event(1, 1) = 100; event(0, 1) = 1200; event(0|1|2, 0) = 4; event(0|1|2, 2) = 31",
            "addRack(2, 5); 2 x take(0, 1); claim(#0); pass(1); take(0, 1) = #1; pass(5); set(2, 1); pass(1) = 2; event(1, 1) = 1;"
            + "event(0, 1) = 100; event(0|1, 2) = 7");
        s.says("10 for each of its size are earned",
            "addRack(1, 5); take(0, 1); pass(31) = 1; count(11) = 10",
            "addRack(1, 5); take(0, 5); set(1, 50); pass(31) = 1; count(11) = 50",
            "5 x addRack(12, 5); 60 x take(0, 5); pass(60) = 60; count(11) = 3000; count(9) = 60; count(3) = 0; event(0, 2) = 31;"
            + "count(0) = 60");
        s.says("a closed rack's coats are auctioned too",
            "addRack(1, 5); take(0, 2); open(0, false); pass(31) = 1; count(11) = 20; hook(0, 1) = 0");
    }

    private static void log() {
        s.part("log");
        s.says("The latest 10 events are known",
            "event(0|9|10, 0|1|2) = NONE; addRack(12, 5); take(0, 1); event(0, 1) = 0; event(1, 0|1|2) = NONE",
            "addRack(12, 5); 10 x take(0, 1); event(0, 1) = 900; event(9, 1) = 0; event(10, 1) = NONE; take(0, 1); event(0, 1) = 1000;"
            + "event(9, 1) = 100; event(10, 1) = NONE; event(MAX, 1) = NONE; undo(); event(0, 1) = 900; event(9, 1) = 0;"
            + "event(10, 1) = NONE",
            "addRack(12, 5); addRack(12, 5); 12 x take(0, 1); moveAll(0, 1) = 12; event(0, 1) = 2300; event(9, 1) = 1400; event(9, 0) = 1;"
            + "event(10, 0) = NONE");
        s.says("The kinds of events are: 0 a coat is taken in, 1 moved, 2 returned by a tag, 3 given out without a tag, 4 auctioned",
            "addRack(4, 5); pass(1); take(0, 1); event(0, 0) = 0; event(0, 1) = 0; event(0, 2) = 1",
            "addRack(4, 5); take(0, 1); pass(2); move(#0, 3); event(0, 0) = 1; event(0, 1) = 300; event(0, 2) = 2; event(1, 0) = 0",
            "addRack(4, 5); take(0, 1); pass(2); claim(#0); event(0, 0) = 2; event(0, 1) = 0; event(0, 2) = 2",
            "addRack(4, 5); take(0, 1); move(#0, 3); giveOut(0, 0); event(0, 0) = 3; event(0, 1) = 300",
            "addRack(4, 5); take(0, 1); move(#0, 3); pass(60); event(0, 0) = 4; event(0, 1) = 300; event(0, 2) = 31",
            "addRack(4, 5); take(0, 1); move(#0, 3); claim(#0); event(0, 0) = 2; event(0, 1) = 300");
    }

    private static void texts() {
        s.part("texts");
        s.says("There is a text of at most 60 characters, empty at first",
            "count(17) = 0; clearText() = 0; claimAll() = -100",
            "59 x type(48); count(17) = 59; type(48) = 60; type(48|0|65535) = FULL; count(17) = 60; clearText() = 60; type(48) = 1");
    }

    private static void textOfTags() {
        s.says("A text of tags is one or more tags (the empty text ends too early)",
            "claimAll() = -100",
            "text(0); clearText(); claimAll() = -100");
        s.says("with \",\" between two",
            "text(,); claimAll() = -100",
            "text(0,); claimAll() = -102",
            "text(,0); claimAll() = -100",
            "text(0,,0); claimAll() = -102",
            "text(0 0); claimAll() = -101",
            "text(0, 0); claimAll() = -102",
            "text(0,0); claimAll() = UNKNOWN",
            "text(12,7,); claimAll() = -105");
        s.says("A tag is one to five digits",
            "text(1); claimAll() = BAD_VALUE",
            "text(12345); claimAll() = BAD_VALUE",
            "text(123456); claimAll() = -105",
            "text(99999); claimAll() = BAD_VALUE",
            "text(12345,12345); claimAll() = BAD_VALUE",
            "text(12345,123456); claimAll() = -111",
            "text(1,123456); claimAll() = -107");
        s.says("without zeros in front unless it is the single digit 0",
            "text(0); claimAll() = UNKNOWN",
            "text(00); claimAll() = -101",
            "text(01); claimAll() = -101",
            "text(0,00); claimAll() = -103",
            "text(10); claimAll() = BAD_VALUE",
            "text(10000); claimAll() = BAD_VALUE",
            "text(100000); claimAll() = -105",
            "text(1,09); claimAll() = -103");
        for (int character : new int[] {0, ' ', '+', '-', '.', '/', ':', ';', 'a', 0x660, 0xff11, 0xffff}) {
            s.says("The fault of the text is the index of the first character that is not allowed at its place (" + character + ")",
                "type(" + character + "); claimAll() = -100",
                "text(1); type(" + character + "); claimAll() = -101",
                "text(1,); type(" + character + "); claimAll() = -102",
                "text(12345); type(" + character + "); text(,,); claimAll() = -105");
        }
        for (int digit = 0; digit <= 9; digit++) {
            s.says("A tag is one to five digits: " + digit,
                "text(" + digit + "); claimAll() = " + (digit == 0 ? "UNKNOWN" : "BAD_VALUE"),
                "text(5" + digit + "00a); claimAll() = -104");
        }
        s.says("or the length of the text if it ends too early",
            "text(1,); claimAll() = -102",
            "text(12345,); claimAll() = -106",
            "text(0,0,0,); claimAll() = -106");
        s.says("Whether a check digit is right plays no part in it",
            "addRack(1, 5); take(0, 1); text(1); claimAll() = BAD_VALUE; text(,); claimAll() = -102; text(0); claimAll() = BAD_VALUE;"
            + "count(3) = 1");
    }

    private static void fullTexts() {
        String pairs = "0,".repeat(29);
        s.says("The full text: its last character is read, and no more than it",
            "text(" + pairs + "0); count(17) = 59; claimAll() = UNKNOWN",
            "text(" + pairs + "0,); count(17) = 60; claimAll() = -160",
            "text(" + pairs + "00); claimAll() = -159",
            "text(" + pairs + "0.); claimAll() = -159",
            "text(" + pairs + "10); claimAll() = UNKNOWN",
            "60 x type(49); claimAll() = -105",
            "60 x type(48); claimAll() = -101",
            "60 x type(44); claimAll() = -100",
            "text(" + pairs + "0,); type(49) = FULL; claimAll() = -160");
        s.says("The full text of eleven tags: all of their coats are returned",
            "addRack(12, 5); addRack(4, 5); 16 x take(0, 1); text(#100,#200,#300,#400,#500,#1000,#1100,#1200,#1300,#1400,#1500);"
            + "count(17) = 60; claimAll() = 22; count(17) = 60; count(3) = 5; count(7) = 11; hook(15, 1) = 0; count(11) = 22;"
            + "claimAll() = RETURNED");
        s.says("The text of thirty tags: the last of them is read",
            "addRack(1, 5); take(0, 1); text(" + pairs + "0); claimAll() = RETURNED; count(3) = 1",
            "addRack(11, 5); 10 x take(0, 1); text(0,#100,#200,#300,#400,#500,#600,#700,#800,#900,1); claimAll() = BAD_VALUE; count(3) = 10");
    }

    private static void history() {
        s.part("history");
        s.says("A history of at most 4 states is kept",
            "count(16) = 0; set(1, 3); count(16) = 1; set(1, 4); set(1, 5); count(16) = 3; set(1, 6); count(16) = 4; set(1, 7);"
            + "count(16) = 4; set(1, 8); count(16) = 4");
        s.says("when one more is recorded, the oldest one is dropped",
            "set(1, 3); set(1, 4); set(1, 5); set(1, 6); 4 x undo(); count(14) = 2; undo() = NONE",
            "set(1, 3); set(1, 4); set(1, 5); set(1, 6); set(1, 7); 4 x undo(); count(14) = 3; undo() = NONE; count(14) = 3",
            "set(1, 3); set(1, 4); set(1, 5); set(1, 6); set(1, 7); undo() = 3; set(1, 8); set(1, 9); count(16) = 4; undo() = 3;"
            + "count(14) = 8; undo() = 2; count(14) = 6; undo() = 1; count(14) = 5; undo() = 0; count(14) = 4; undo() = NONE;"
            + "set(1, 8) = 4; undo() = 0; count(14) = 4");
        s.says("undo() removes and restores the latest one",
            "undo() = NONE; set(1, 3); set(1, 4); undo() = 1; count(14) = 3; undo() = 0; count(14) = 2; undo() = NONE; count(14) = 2;"
            + "count(16) = 0");
    }

    private static void longRuns() {
        s.says("A history of at most 4 states is kept, however many were recorded",
            moves(500, 12) + "count(16) = 4; undo() = 3; undo() = 2; undo() = 1; undo() = 0; undo() = NONE; count(10) = 496; hook(4, 1) = 1");
        s.says("The latest 10 events are known, however many there were",
            moves(500, 12) + "event(0, 1) = 841; event(9, 1) = 1140; event(10, 1) = NONE; event(9, 0) = 1; count(10) = 500");
        s.says("The latest 10 events are known: those of the last day too",
            "addRack(1, 5); 166 x pass(60); pass(39); take(0, 1); claim(#0); event(0, 2) = 9999; event(1, 2) = 9999; event(2, 2) = NONE");
    }

    private static void whatRecords() {
        String[] acts = {"addRack(1, 1) = 1", "open(0, false) = 1", "age(1, 1) = 0", "set(0, 1) = 0", "take(0, 1) = #100",
            "claim(#0) = 2", "giveOut(0, 0) = 52", "move(#0, 1) = #100", "pass(1) = 0", "text(#0); claimAll() = 2", "keep(); restore() = 1"};
        for (String act : acts) {
            s.says("Each call of a method that is described as an act records the state that was before it: " + act,
                "addRack(2, 5); take(0, 1); count(16) = 2; " + act + "; count(16) = 3; undo() = 2; count(1) = 1; count(3) = 1;"
                + "rack(0, 2) = 1; hook(1, 0) = 0; count(13) = 0; count(5) = 1; due(#0) = 2; count(11) = 0; count(0) = 0; hook(0, 1) = 1");
        }
        s.says("Each call of an act records the state that was before it: moveAll, shorten",
            "addRack(1, 5); addRack(1, 5); take(0, 1); moveAll(0, 1) = 1; count(16) = 4; undo() = 3; hook(0, 1) = 1; count(10) = 0",
            "addRack(3, 5); take(0, 1); move(#0, 1); undo(); count(16) = 2; move(#0, 1); move(#0, 2); count(16) = 4; shorten() = 1;"
            + "undo() = 3; tag(#0, 1) = 2; undo() = 2");
        s.says("and returns no error and not NONE: 0 is neither",
            "addRack(1, 5) = 0; count(16) = 1; open(0, false) = 0; count(16) = 2; age(0, 1) = 0; count(16) = 3; pass(1) = 0; count(16) = 4",
            "set(0, 1) = 0; count(16) = 1; addRack(1, 5); take(0, 1) = 0; count(16) = 3; set(1, 0); claim(0) = 0; undo() = 3; count(3) = 1;"
            + "count(14) = 0",
            "addRack(1, 5); set(1, 0); take(0, 1) = 0; text(0); claimAll() = 0; count(16) = 4; undo() = 3; count(3) = 1; count(14) = 0",
            "keep() = 0; restore() = 0; count(16) = 1; restore() = 0; count(16) = 2",
            "addRack(1, 5); open(0, false); addRack(1, 5); take(0, 1) = #1200; open(0, true); move(#1200, 0) = 0; undo() = 3;"
            + "hook(12, 1) = 1; rack(0, 2) = 1");
        s.says("What is no act records nothing",
            "type(48) = 1; clearText() = 1; keep() = 0; undo() = NONE; count(16) = 0; addRack(1, 5); keep() = 0; type(48) = 1;"
            + "clearText() = 1; count(16) = 1; undo() = 0");
    }

    private static void snapshot() {
        s.says("There is one snapshot, empty at first",
            "restore() = NONE; count(16) = 0; addRack(1, 5); restore() = NONE; count(16) = 1; count(1) = 1; keep() = 0; addRack(1, 5);"
            + "restore() = 0; count(1) = 1",
            "set(1, 3); keep(); set(1, 4); keep(); set(1, 5); restore() = 0; count(14) = 4; restore() = 0; count(14) = 4");
        s.says("A state is everything but the text, the history and the snapshot: the text",
            "text(12); addRack(1, 5); keep(); text(34); undo(); count(17) = 4; restore() = 0; count(17) = 4; clearText() = 4; undo();"
            + "count(17) = 0");
        s.says("A state is everything but the text, the history and the snapshot: the history",
            "keep(); addRack(1, 5); addRack(2, 5); restore() = 0; count(16) = 3; undo() = 2; count(1) = 2; undo() = 1; undo() = 0;"
            + "restore() = 0; count(16) = 1");
        s.says("A state is everything but the text, the history and the snapshot: the snapshot",
            "addRack(1, 5); keep(); undo() = 0; restore() = 0; count(1) = 1; set(1, 9); keep(); undo(); undo(); restore(); count(14) = 9;"
            + "count(1) = 1");
    }

    private static void restoredStates() {
        String made = "addRack(3, 5); age(0, 99); take(0, 1) = #99; take(1, 2) = #100; set(1, 3); move(#100, 2) = #200; claim(#99) = 3;"
            + "take(3, 1) = #101; giveOut(3, 0) = 53; set(0, 1); set(2, 40); addRack(2, 1); open(1, false); pass(3) = 0; take(2, 1) = #102;";
        String told = "count(0) = 3; count(1) = 2; count(2) = 5; count(3) = 2; count(4) = 1; count(5) = 5; count(6) = 4; count(7) = 1;"
            + "count(8) = 1; count(9) = 0; count(10) = 1; count(11) = 56; count(12) = 1; count(13) = 1; count(14) = 3; count(15) = 40;"
            + "rack(0, 2) = 1; rack(1, 2) = 0; hook(0, 2) = 1; hook(1, 0) = 2; hook(1, 7) = 2; hook(1, 3) = 2; hook(2, 3) = 1; hook(2, 4) = 2;"
            + "hook(2, 5) = 0; hook(12, 1) = 0; tag(#99, 2) = 1; tag(#101, 2) = 2; tag(#1200, 2) = UNKNOWN; tag(#100, 4) = #200; guest(0|1|2|3, 2) = 1;"
            + "guest(1|2, 0) = 1; guest(0|3, 0) = 0; event(0|2, 0) = 0; event(1, 0) = 3; event(3, 0) = 2; event(4, 0) = 1; next(1) = NONE;"
            + "due(#100) = 18";
        String changed = "open(1, true); age(12, 7); set(0, 3);";
        s.says("A state is everything: as it is made", made + told);
        s.says("A state is everything: undo() brings it back",
            made + "pass(60) = 2; undo() = 3;" + told,
            made + changed + "3 x undo();" + told,
            made + "claim(#102) = 3; claim(#100); set(1, 9); pass(3); 4 x undo();" + told,
            made + "set(2, 9); set(1, 9); addRack(1, 1); shorten() = NONE; 3 x undo();" + told);
        s.says("A state is everything: restore() brings it back",
            made + "keep() = 2;" + changed + "pass(60); addRack(1, 1); take(7, 1); claim(#100); set(1, 50); set(2, 1); restore() = 2;"
            + told);
    }

    private static void restoredOverOthers() {
        String[][] lost = {
            {"a coat's guest, size and day", "addRack(1, 5); take(3, 5) = #0; pass(1);", "claim(#0); take(4, 2) = #1;",
                "hook(0, 3) = 3; hook(0, 4) = 5; hook(0, 5) = 0; hook(0, 6) = #0; hook(0, 0) = 0; due(#0) = 10; tag(#1, 5) = UNKNOWN"},
            {"which hook was left when", "addRack(2, 5); 2 x take(0, 1); claim(#0); claim(#100);", "take(0, 1) = #1; claim(#1);",
                "set(0, 1); next(1) = 1; set(0, 2); next(1) = 0"},
            {"a hook that is retired", "addRack(1, 5); age(0, 99);", "take(0, 1); claim(#99);", "hook(0, 2) = 0; hook(0, 7) = 0; next(1) = 0"},
            {"the coats taken in for a guest", "addRack(3, 5); take(3, 1);", "take(3, 1); take(4, 1);",
                "guest(3, 2) = 1; guest(4, 2) = 0; count(6) = 1"},
            {"the follower of a handle, and its end", "addRack(2, 5); take(3, 1);", "move(#0, 1); claim(#0);",
                "tag(#0, 4) = NONE; tag(#0, 2) = 0; count(12) = 0"},
            {"the ways", "addRack(4, 5); take(3, 1); move(#0, 1); move(#0, 2);", "move(#0, 3); count(12) = 3; shorten() = 2; count(12) = 1;",
                "count(12) = 2; tag(#0, 1) = 2; tag(#0, 4) = #100"},
        };
        for (String[] one : lost) {
            s.says("A state is everything: undo() brings back " + one[0], one[1] + one[2] + "2 x undo();" + one[3]);
            s.says("A state is everything: restore() brings back " + one[0], one[1] + "keep();" + one[2] + "restore();" + one[3]);
            s.says("A state is everything: undo() of a restore() brings back " + one[0],
                "keep();" + one[1] + "restore(); undo();" + one[3]);
        }
        s.says("A state is everything: restore() brings back the racks of the snapshot, undo() those ahead of it",
            "addRack(3, 5); keep(); undo(); addRack(12, 1); open(0, false); restore() = 0; rack(0, 0) = 3; rack(0, 1) = 5; rack(0, 2) = 1;"
            + "hook(3, 0) = UNKNOWN; undo(); rack(0, 0) = 12; rack(0, 1) = 1; rack(0, 2) = 0; hook(11, 0) = 0");
        s.says("A state is everything: restore() brings back the handles of the snapshot",
            "addRack(1, 5); take(3, 1) = #0; keep(); undo(); age(0, 5); take(4, 2) = #5; restore() = 1; tag(#0, 0) = 0; tag(#0, 5) = 3;"
            + "tag(#5, 0) = UNKNOWN; hook(0, 3) = 3; hook(0, 4) = 1; undo(); tag(#0, 0) = UNKNOWN; tag(#5, 5) = 4; hook(0, 3) = 4",
            "addRack(1, 5); take(3, 1) = #0; keep(); undo(); take(4, 1) = #0; restore() = 1; tag(#0, 5) = 3; undo(); tag(#0, 5) = 4");
        s.says("A state is everything: restore() brings back the log of the snapshot",
            "addRack(2, 5); take(0, 1); move(#0, 1); keep(); undo(); pass(1); claim(#0); event(0, 0) = 2; restore(); event(0, 0) = 1;"
            + "event(0, 1) = 100; event(0, 2) = 0; event(2, 0) = NONE; count(7) = 0; count(10) = 1; undo(); event(0, 0) = 2;"
            + "event(0, 1) = 0; event(0, 2) = 1; count(7) = 1; count(10) = 0");
        s.says("(Restoring a state can bring back years; then the same handle can be given again.)",
            "addRack(1, 5); take(3, 1) = #0; claim(#0); hook(0, 0) = 1; undo(); undo(); hook(0, 0) = 0; count(5) = 0; tag(#0, 5) = UNKNOWN;"
            + "take(4, 2) = #0; tag(#0, 5) = 4; due(#0) = 2",
            "addRack(1, 5); keep(); take(3, 1) = #0; claim(#0); restore(); tag(#0, 2) = UNKNOWN; take(4, 2) = #0; tag(#0, 5) = 4;"
            + "tag(#0, 2) = 0; count(5) = 1");
    }

    private static void tagErrors() {
        s.part("errors");
        String given = "addRack(5, 5); take(0, 1) = #0; take(0, 1) = #100; take(1, 1) = #200; take(0, 1) = #300; claim(#100); giveOut(1, 0);"
            + "pass(31) = 2; take(0, 1) = #1;";
        String[] calls = {"claim(T)", "due(T)", "move(T, 4)"};
        for (String call : calls) {
            s.says("BAD_VALUE if it is not from 0 to 59999: " + call,
                given + call.replace("T", "-1|60000|60008|MIN|MAX|-10|-19") + " = BAD_VALUE");
            s.says("or its check digit is wrong: " + call,
                given + call.replace("T", "1|2|3|4|5|6|7|8|9|10|18|1000|1002|1009|59990|59997|59999") + " = BAD_VALUE");
            s.says("UNKNOWN if its handle was never given: " + call,
                given + call.replace("T", "#2|#99|#101|#400|#500|#1200|#5999") + " = UNKNOWN",
                call.replace("T", "0") + " = UNKNOWN");
            s.says("RETURNED if its end is 1: " + call, given + call.replace("T", "#100") + " = RETURNED");
            s.says("GONE if its end is 2 or 3: " + call, given + call.replace("T", "#0|#200|#300") + " = GONE");
        }
        s.says("BAD_VALUE if it is not from 0 to 59999, or its check digit is wrong: claimAll()",
            given + "text(60000); claimAll() = BAD_VALUE",
            given + "text(60008); claimAll() = BAD_VALUE",
            given + "text(99999); claimAll() = BAD_VALUE",
            given + "text(18); claimAll() = BAD_VALUE");
        String wild = "addRack(MIN|MAX, MIN|MAX) = BAD_VALUE; open(MIN|MAX, true|false) = UNKNOWN; age(MIN|MAX, MIN|MAX) = UNKNOWN;"
            + "set(MIN|MAX, MIN|MAX) = BAD_VALUE; take(MIN|MAX, MIN|MAX) = UNKNOWN; claim(MIN|MAX) = BAD_VALUE; "
            + "giveOut(MIN|MAX, MIN|MAX) = UNKNOWN; move(MIN|MAX, MIN|MAX) = BAD_VALUE; moveAll(MIN|MAX, MIN|MAX) = UNKNOWN; pass(MIN|MAX) = BAD_VALUE;"
            + "rack(MIN|MAX, MIN|MAX) = UNKNOWN; hook(MIN|MAX, MIN|MAX) = UNKNOWN; tag(MIN|MAX, MIN|MAX) = BAD_VALUE; tagOf(MIN|MAX) = BAD_VALUE;"
            + "guest(MIN|MAX, MIN|MAX) = UNKNOWN; next(MIN|MAX) = BAD_VALUE; due(MIN|MAX) = BAD_VALUE; event(MIN|MAX, MIN|MAX) = BAD_VALUE; count(MIN|MAX) = BAD_VALUE";
        s.says("the order of the @return line is the order of the checks: the smallest and the greatest int in every place",
            wild,
            given + wild,
            "5 x addRack(12, 5); 60 x take(0, 5);" + wild);
        s.says("UNKNOWN, RETURNED, GONE: claimAll()",
            given + "text(59998); claimAll() = UNKNOWN",
            given + "text(#100); claimAll() = RETURNED",
            given + "text(#200); claimAll() = GONE",
            given + "text(#0); claimAll() = GONE");
    }
}
