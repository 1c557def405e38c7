/** The sentences of the promises 1 to 27: each argument's bounds, and each "Returns" line's answers in their order. */
public final class EdgesOfPromisesTest {
    private static final Sentences s = new Sentences();

    public static void main(String[] args) {
        p01NewObject();
        p02AddRack();
        p03Open();
        p04Age();
        p05Set();
        p06Take();
        p07Claim();
        p08GiveOut();
        p09Move();
        p10MoveAll();
        p10MoveAllBounds();
        p11Shorten();
        p12Pass();
        p13Type();
        p14ClearText();
        p15ClaimAll();
        p15ClaimAllInTurn();
        p16Undo();
        p17Keep();
        p18Restore();
        p19Rack();
        p20Hook();
        p21Tag();
        p22TagOf();
        p23Guest();
        p24Next();
        p25Due();
        p26Event();
        p27Count();
        s.end();
    }

    private static void p01NewObject() {
        s.part("promise 1");
        s.says("Creates a cloakroom without racks",
            "count(0|1|2|3|4|5|6|7|8|9|10|11|12|13|16|17) = 0; count(14) = 2; count(15) = 30; rack(0, 0) = UNKNOWN; hook(0, 0) = UNKNOWN;"
            + "guest(0|19, 0|1|2) = 0; event(0, 0) = NONE; next(1|5) = NONE; tag(0|59998, 0) = UNKNOWN; due(0) = UNKNOWN",
            "open(0, true|false) = UNKNOWN; age(0, 1) = UNKNOWN; take(0, 1) = FULL; claim(0) = UNKNOWN; giveOut(0, 0) = UNKNOWN;"
            + "move(0, 0) = UNKNOWN; moveAll(0, 0|1) = UNKNOWN; shorten() = NONE; undo() = NONE; restore() = NONE; claimAll() = -100;"
            + "clearText() = 0; keep() = 0; pass(1) = 0");
    }

    private static void p02AddRack() {
        s.part("promise 2");
        s.says("hooks: 1 to 12", "addRack(MIN|-12|-1|0|13|MAX, 1|5) = BAD_VALUE; addRack(1, 1) = 0; addRack(12, 1) = 1; count(2) = 13");
        s.says("size: 1 to 5",
            "addRack(1|12, MIN|-1|0|6|MAX) = BAD_VALUE; addRack(1, 1) = 0; addRack(1, 5) = 1; rack(0, 1) = 1; rack(1, 1) = 5");
        s.says("Returns its number; BAD_VALUE; FULL if there are 5",
            "4 x addRack(1, 1); addRack(1, 1) = 4; addRack(1, 1) = FULL; addRack(12, 5) = FULL; addRack(0|13, 1) = BAD_VALUE;"
            + "addRack(1, 0|6) = BAD_VALUE");
        s.says("FULL if there are 5: a rack that undo() takes away is none of them",
            "5 x addRack(1, 1); addRack(2, 2) = FULL; undo() = 3; addRack(2, 2) = 4; rack(4, 0|1) = 2; rack(4, 2) = 1; addRack(2, 2) = FULL");
    }

    private static void p03Open() {
        s.part("promise 3");
        s.says("rack: a rack",
            "open(0, true|false) = UNKNOWN; addRack(1, 1); open(1|-1|5|MIN|MAX, true|false) = UNKNOWN; open(0, false) = 0",
            "5 x addRack(1, 1); open(5|6, false) = UNKNOWN; open(4, false) = 0; rack(4, 2) = 0; rack(3, 2) = 1");
        s.says("coats on it stay",
            "addRack(2, 5); take(3, 4); open(0, false) = 1; hook(0, 3) = 3; hook(0, 0) = 0; hook(0, 7) = 0; rack(0, 3) = 1; count(3) = 1;"
            + "due(0) = 2; claim(0) = 2; rack(0, 3) = 0; hook(0, 0) = 1");
        s.says("Returns the number of coats on it; UNKNOWN; NONE if it is so already",
            "addRack(12, 5); addRack(1, 5); open(0, true) = NONE; 13 x take(0, 1); open(0, true) = NONE; open(0, false) = 12;"
            + "open(0, false) = NONE; open(1, false) = 1; open(1, false) = NONE; open(0, true) = 12; open(0, true) = NONE");
    }

    private static void p04Age() {
        s.part("promise 4");
        s.says("hook: a hook", "addRack(2, 5); addRack(1, 5); age(2|11|13|60|-1|MIN|MAX, 1) = UNKNOWN; age(1, 1) = 0; age(12, 1) = 0");
        s.says("year: a greater year than it has, up to 99",
            "addRack(1, 5); age(0, 0|-1|MIN|100|MAX) = BAD_VALUE; age(0, 1) = 0; age(0, 1) = BAD_VALUE; age(0, 2) = 1; age(0, 98) = 2;"
            + "age(0, 97|98) = BAD_VALUE; age(0, 99) = 98; age(0, 99|100) = BAD_VALUE; hook(0, 2) = 0; next(1) = 0",
            "addRack(1, 5); age(0, 99) = 0; hook(0, 0) = 99; undo(); hook(0, 0) = 0; age(0, 1) = 0");
        s.says("as if many coats had left it (by this nothing leaves it)",
            "addRack(1, 5); age(0, 50) = 0; hook(0, 7) = 0; count(5|6|7|8|9|10) = 0; event(0, 0) = NONE; rack(0, 5) = 50; take(0, 1) = #50");
        s.says("Returns the year that it had; UNKNOWN; BAD_VALUE (year); NOT_POSSIBLE if it holds a coat, or is retired",
            "addRack(1, 5); age(1, 0|100|MAX) = UNKNOWN; take(0, 1); age(0, 1|99) = NOT_POSSIBLE; age(0, 0|100) = BAD_VALUE; claim(0);"
            + "age(0, 1) = BAD_VALUE; age(0, 2) = 1",
            "addRack(1, 5); age(0, 99); take(0, 1); age(0, 99|100) = BAD_VALUE; claim(#99); hook(0, 2) = 1; age(0, 98|99|100) = BAD_VALUE");
        s.says("an empty hook of a closed rack", "addRack(1, 5); open(0, false); age(0, 7) = 0; hook(0, 0) = 7");
    }

    private static void p05Set() {
        s.part("promise 5");
        s.says("what: 0, 1 or 2", "set(-1|3|MIN|MAX, 1) = BAD_VALUE; set(0, 1) = 0; set(1, 1) = 2; set(2, 1) = 30; count(13|14|15) = 1");
        s.says("0 for the rule (0 to 3)",
            "set(0, -1|4|MIN|MAX) = BAD_VALUE; set(0, 0) = NONE; set(0, 3) = 0; count(13) = 3; set(0, 4) = BAD_VALUE; set(0, 0) = 3");
        s.says("1 for the rent (0 to 50)",
            "set(1, -1|51|MIN|MAX) = BAD_VALUE; set(1, 2) = NONE; set(1, 50) = 2; set(1, 0) = 50; count(14) = 0; set(1, 1) = 0");
        s.says("2 for the limit (1 to 99)",
            "set(2, 0|-1|100|MIN|MAX) = BAD_VALUE; set(2, 30) = NONE; set(2, 99) = 30; set(2, 1) = 99; count(15) = 1; set(2, 2) = 1");
        s.says("Returns the previous one; BAD_VALUE; NONE if it is so already",
            "set(0, 1) = 0; set(0, 1) = NONE; set(0, 2) = 1; set(1, 3) = 2; set(1, 3) = NONE; set(2, 31) = 30; set(2, 31) = NONE;"
            + "count(16) = 4; undo() = 3; count(15) = 30");
    }

    private static void p06Take() {
        s.part("promise 6");
        s.says("guest: a guest, 0 to 19",
            "addRack(3, 5); take(-1|20|MIN|MAX, 1) = UNKNOWN; take(0, 1) = #0; take(19, 1) = #100; guest(0|19, 0|2) = 1; guest(1|18, 2) = 0");
        s.says("size: 1 to 5",
            "addRack(3, 5); take(0, 0|-1|6|MIN|MAX) = BAD_VALUE; take(0, 1) = #0; take(0, 5) = #100; hook(0, 4) = 1; hook(1, 4) = 5");
        s.says("Returns its tag; UNKNOWN; BAD_VALUE; FULL if no hook is free for it",
            "take(20|-1, 0|1|6) = UNKNOWN; take(0, 0|6) = BAD_VALUE; take(0, 1) = FULL; addRack(1, 2); take(0, 3) = FULL; take(0, 2) = #0;"
            + "take(0, 1|2) = FULL; take(20, 1|0) = UNKNOWN; take(0, 0|6) = BAD_VALUE; count(6) = 1");
        s.says("FULL if no hook is free for it: retired or closed hooks are not",
            "addRack(1, 5); addRack(1, 5); age(0, 99); open(1, false); take(0, 1) = #99; claim(#99); take(0, 1) = FULL; open(1, true);"
            + "take(0, 1) = #1200");
    }

    private static void p07Claim() {
        s.part("promise 7");
        s.says("Returns what is due for it, which is earned",
            "addRack(2, 5); take(0, 5) = #0; take(0, 3) = #100; claim(#0) = 2; count(11) = 2; pass(30); claim(#100) = 180; count(11) = 182;"
            + "count(7) = 2; count(3) = 0");
        s.says("the errors of a tag: in their order, and the last and first numbers that are none",
            "claim(0|59998) = UNKNOWN; claim(-1|60000|60008|59999|1|MIN|MAX) = BAD_VALUE; addRack(1, 5); take(0, 1); claim(19) = UNKNOWN;"
            + "claim(1) = BAD_VALUE; claim(0) = 2; claim(0) = RETURNED; claim(1) = BAD_VALUE; take(0, 1) = 19; giveOut(0, 0);"
            + "claim(19) = GONE; claim(18) = BAD_VALUE; claim(0) = RETURNED");
    }

    private static void p08GiveOut() {
        s.part("promise 8");
        String coats = "addRack(3, 5); addRack(2, 5); take(1, 1); take(0, 2); take(1, 3); take(1, 4);";
        s.says("guest: a guest",
            coats + "giveOut(-1|20|MIN|MAX, 0) = UNKNOWN; giveOut(19, 0) = UNKNOWN; giveOut(0, 0) = 52",
            "giveOut(0|19, 0) = UNKNOWN");
        s.says("place: which one, from 0, of the guest's coats by the numbers of their hooks",
            coats + "giveOut(1, 3|-1|MIN|MAX) = UNKNOWN; pass(1); giveOut(1, 2) = 58; hook(12, 1) = 0; giveOut(1, 2) = UNKNOWN;"
            + "giveOut(1, 0) = 52; giveOut(1, 0) = 56; giveOut(1, 0) = UNKNOWN",
            coats + "claim(#0); take(1, 5) = #1; pass(1); giveOut(1, 0) = 60; giveOut(1, 0) = 56",
            coats + "move(#0, 13); pass(1); giveOut(1, 2) = 52; giveOut(1, 2) = UNKNOWN");
        s.says("Returns what is due for it, which is earned",
            coats + "giveOut(1, 1) = 52; count(11) = 52; count(8) = 1; count(7) = 0; due(#200) = GONE; tag(#200, 2) = 2");
    }

    private static void p09Move() {
        s.part("promise 9");
        s.says("hook: a hook",
            "addRack(2, 5); addRack(1, 5); take(0, 1); move(0, 2|11|13|60|-1|MIN|MAX) = UNKNOWN; move(0, 12) = #1200; move(0, 1) = #100;"
            + "move(0, 0) = #1");
        s.says("Returns the tag of its new handle",
            "addRack(2, 5); age(1, 99); take(0, 1); move(0, 1) = #199; move(0, 0) = #1; hook(1, 2) = 1; move(#199, 1) = NOT_POSSIBLE;"
            + "count(10) = 2; tag(0, 1) = 2");
        s.says("the errors of a tag; then UNKNOWN (hook); NOT_POSSIBLE if the hook is not free for it",
            "addRack(3, 5); take(0, 1); take(0, 1); move(1|-1|60000|MIN|MAX, 99) = BAD_VALUE; move(1, 0) = BAD_VALUE;"
            + "move(#2, 0|2|99) = UNKNOWN; move(0, 3|99) = UNKNOWN; move(0, 0|1) = NOT_POSSIBLE; claim(0); move(0, 3|99|1|2) = RETURNED;"
            + "giveOut(0, 0); move(#100, 3|99|1|2) = GONE");
        s.says("off a closed rack it is possible, onto it not",
            "addRack(2, 5); addRack(1, 5); take(0, 1); open(0, false); move(0, 1) = NOT_POSSIBLE; move(0, 12) = #1200;"
            + "move(0, 1) = NOT_POSSIBLE");
    }

    private static void p10MoveAll() {
        s.part("promise 10");
        s.says("from, to: a rack",
            "moveAll(0, 0|1) = UNKNOWN; addRack(1, 5); addRack(1, 5); take(0, 1); moveAll(0, 2|-1|5|MIN|MAX) = UNKNOWN;"
            + "moveAll(2|-1|5|MIN|MAX, 0) = UNKNOWN; moveAll(0, 1) = 1; moveAll(1, 0) = 1",
            "5 x addRack(1, 5); take(0, 1); moveAll(0, 4) = 1; moveAll(4, 5) = UNKNOWN; moveAll(4, 0) = 1");
        s.says("Returns how many coats are moved; UNKNOWN; BAD_VALUE if both are the same; NOT_POSSIBLE if there is no hook for one of "
            + "them; NONE if there are none",
            "addRack(1, 5); addRack(1, 5); moveAll(2|MIN|MAX, 2|MIN|MAX) = UNKNOWN; moveAll(0, 0) = BAD_VALUE; moveAll(1, 1) = BAD_VALUE;"
            + "moveAll(0, 1) = NONE; take(0, 1); moveAll(0, 0) = BAD_VALUE; take(0, 1); moveAll(0, 1) = NOT_POSSIBLE;"
            + "moveAll(0, 0) = BAD_VALUE; moveAll(0, 2) = UNKNOWN",
            "addRack(1, 5); addRack(1, 5); open(1, false); moveAll(0, 1) = NONE; take(0, 1); moveAll(0, 1) = NOT_POSSIBLE;"
            + "moveAll(1, 0) = NONE");
        s.says("each of them, by the numbers of their hooks, to the lowest hook of the other rack that is free for it then",
            "addRack(3, 5); addRack(5, 5); 3 x take(0, 1); move(#200, 13); age(14, 99); take(1, 1) = #201; claim(#201); move(#100, 14);"
            + "move(#100, 2); count(4) = 1; moveAll(0, 1) = 2; hook(12, 6) = #1200; hook(15, 6) = #1500; tag(#0, 0) = 12;"
            + "tag(#100, 0) = 15; event(0, 1) = 1500; event(1, 1) = 1200",
            "addRack(1, 5); addRack(2, 5); take(0, 1); take(0, 1) = #1200; take(0, 1) = #1300; claim(#1200); claim(#1300); set(0, 1);"
            + "next(1) = 13; moveAll(0, 1) = 1; hook(12, 1) = 1",
            "addRack(1, 5); addRack(2, 5); take(0, 1); age(12, 9); set(0, 3); moveAll(0, 1) = 1; hook(12, 6) = #1209");
    }

    private static void p10MoveAllBounds() {
        s.says("NOT_POSSIBLE if there is no hook for one of them: the full rack",
            "addRack(12, 5); addRack(12, 5); 12 x take(0, 1); moveAll(0, 1) = 12; rack(0, 3) = 0; rack(1, 3) = 12; count(10) = 12;"
            + "take(0, 1) = #1; moveAll(0, 1) = NOT_POSSIBLE",
            "addRack(12, 5); addRack(11, 5); 12 x take(0, 1); moveAll(0, 1) = NOT_POSSIBLE; count(10) = 0; claim(#1100); moveAll(0, 1) = 11");
        s.says("NOT_POSSIBLE if there is no hook for one of them: the size of the last one",
            "addRack(3, 5); addRack(3, 3); take(0, 3); take(0, 3); take(0, 4) = #200; moveAll(0, 1) = NOT_POSSIBLE; hook(0|1|2, 1) = 1;"
            + "claim(#200); moveAll(0, 1) = 2");
        s.says("NOT_POSSIBLE if there is no hook for one of them: a retired one",
            "addRack(1, 5); addRack(1, 5); age(12, 99); take(0, 1); move(#0, 12); claim(#0); take(0, 1) = #1; moveAll(0, 1) = NOT_POSSIBLE");
        s.says("Either all of them are moved or none",
            "addRack(2, 5); addRack(1, 5); take(0, 1); take(0, 1); moveAll(0, 1) = NOT_POSSIBLE; hook(0|1, 1) = 1; hook(0|1|12, 0) = 0;"
            + "hook(12, 1) = 0; count(10) = 0; event(0, 0) = 0; tag(#0, 4) = NONE; count(5) = 2; next(1) = 12; count(16) = 4; undo();"
            + "count(3) = 1");
        s.says("from a closed rack it is possible",
            "addRack(2, 5); addRack(2, 5); 2 x take(0, 1); open(0, false); moveAll(0, 1) = 2; moveAll(1, 0) = NOT_POSSIBLE");
        s.says("moving to the hooks of the last year",
            "addRack(1, 5); addRack(1, 5); age(12, 99); take(0, 1); moveAll(0, 1) = 1; hook(12, 6) = #1299; moveAll(1, 0) = 1;"
            + "hook(12, 2) = 1");
    }

    private static void p11Shorten() {
        s.part("promise 11");
        s.says("NONE if none is",
            "shorten() = NONE; addRack(4, 5); shorten() = NONE; take(0, 1); shorten() = NONE; move(0, 1); count(12) = 1; shorten() = NONE;"
            + "move(0, 2); shorten() = 1; shorten() = NONE");
        s.says("Returns how many handles are followed by another one than before",
            "addRack(4, 5); take(0, 1); move(0, 1); move(0, 2); move(0, 3); shorten() = 2; tag(0|#100|#200, 4) = #300; move(0, 0);"
            + "tag(0, 1) = 2; shorten() = 3; tag(0|#300, 4) = #1",
            "addRack(2, 5); addRack(2, 5); take(0, 1); take(1, 1); moveAll(0, 1); moveAll(1, 0); shorten() = 2; tag(#0|#1200, 4) = #1;"
            + "tag(#100|#1300, 4) = #101; tag(#1, 5) = 0");
        s.says("Shortens all ways: of coats that left too",
            "addRack(4, 5); take(0, 1); move(0, 1); move(0, 2); claim(0); take(1, 1) = #1; move(#1, 1); move(#1, 3); giveOut(1, 0);"
            + "shorten() = 2; tag(0, 4) = #200; tag(#1, 4) = #300; tag(0, 2) = 1; tag(#1, 2) = 2; due(0) = RETURNED; due(#1) = GONE");
    }

    private static void p12Pass() {
        s.part("promise 12");
        s.says("days: 1 to 60", "pass(0|-1|61|MIN|MAX) = BAD_VALUE; count(0) = 0; pass(1) = 0; count(0) = 1; pass(60) = 0; count(0) = 61");
        s.says("NOT_POSSIBLE if the day would become more than 9999",
            "166 x pass(60); count(0) = 9960; pass(40|60) = NOT_POSSIBLE; count(0) = 9960; pass(39) = 0; count(0) = 9999;"
            + "pass(1|60) = NOT_POSSIBLE",
            "165 x pass(60); pass(39); count(0) = 9939; pass(60) = 0; count(0) = 9999; pass(1) = NOT_POSSIBLE",
            "165 x pass(60); pass(40); pass(60) = NOT_POSSIBLE; pass(59) = 0; count(0) = 9999");
        s.says("BAD_VALUE; NOT_POSSIBLE: in this order, on the last day",
            "166 x pass(60); pass(39); pass(0|-1|61|MIN|MAX) = BAD_VALUE; pass(1|60) = NOT_POSSIBLE; count(0) = 9999");
        s.says("on the last day coats come and go",
            "addRack(2, 5); 166 x pass(60); take(0, 5); pass(31) = 1; event(0, 2) = 9991; pass(8); take(0, 5) = #1; hook(0, 5) = 9999;"
            + "due(#1) = 2; claim(#1) = 2; event(0, 2) = 9999");
        s.says("Returns how many coats are auctioned in them",
            "addRack(3, 5); take(0, 1); pass(1); take(0, 1); pass(1); take(0, 1); pass(28) = 0; pass(1) = 1; pass(2) = 2; count(9) = 3",
            "addRack(3, 5); take(0, 1); pass(1); take(0, 1); pass(30) = 1; pass(60) = 1; pass(60) = 0");
    }

    private static void p13Type() {
        s.part("promise 13");
        s.says("character: any character", "type(0|32|44|48|57|127|128|255|256|55296|65535); count(17) = 11; clearText() = 11");
        s.says("Returns the length of the text then; FULL if it has 60 characters",
            "type(48) = 1; type(48) = 2; 57 x type(48); type(48) = 60; type(48|44|0|65535) = FULL; count(17) = 60; clearText() = 60;"
            + "type(65535) = 1; type(0) = 2");
        s.says("Types a character behind the text",
            "type(48); claimAll() = UNKNOWN; type(44); claimAll() = -102; type(50); claimAll() = UNKNOWN; type(46); claimAll() = -103");
    }

    private static void p14ClearText() {
        s.part("promise 14");
        s.says("Returns the length that it had",
            "clearText() = 0; type(48); clearText() = 1; clearText() = 0; 60 x type(48); clearText() = 60; clearText() = 0");
        s.says("Empties the text",
            "text(0,a); clearText() = 3; count(17) = 0; claimAll() = -100; type(48) = 1; claimAll() = UNKNOWN; type(44) = 2;"
            + "claimAll() = -102");
    }

    private static void p15ClaimAll() {
        s.part("promise 15");
        String coats = "addRack(12, 5); take(0, 1); take(1, 2); take(2, 3); pass(1);";
        s.says("Returns the coats of the tags in the text, which stays",
            coats + "text(#100,#0); claimAll() = 6; count(17) = 6; count(3) = 1; count(7) = 2; count(11) = 6; hook(0|1, 1) = 0;"
            + "hook(2, 1) = 1; claimAll() = RETURNED; clearText() = 6",
            coats + "text(#200); claimAll() = 6; tag(#200, 2) = 1; count(11) = 6; event(0, 0) = 2; event(0, 1) = 200");
        s.says("one after the other",
            coats + "text(#200,#0,#100); claimAll() = 12; event(2, 1) = 200; event(1, 1) = 0; event(0, 1) = 100; event(3, 0) = 0");
        s.says("all of them, or none",
            coats + "text(#0,#100,#300); claimAll() = UNKNOWN; count(3) = 3; count(7|11) = 0; event(0, 0) = 0; hook(0|1, 0) = 0;"
            + "due(#0) = 2",
            coats + "text(#0,#100,#0); claimAll() = RETURNED; count(3) = 3; count(7|11) = 0; due(#0) = 2; due(#100) = 4");
        s.says("This is one act",
            coats + "text(#0,#100,#200); count(16) = 4; claimAll() = 12; count(16) = 4; undo() = 3; count(3) = 3; count(11) = 0;"
            + "undo() = 2; count(0) = 0",
            "addRack(2, 5); take(0, 1); take(0, 1); text(#0,#100); claimAll() = 4; count(16) = 4; undo() = 3; count(3) = 2");
        s.says("-100 minus the fault of the text if it has one (which is an error): ahead of a tag's error",
            coats + "text(1,); claimAll() = -102; count(16) = 4; text(0); claimAll() = BAD_VALUE; text(,); text(,); claimAll() = -104;"
            + "count(3) = 3; count(16) = 4",
            coats + "text(0,); claimAll() = -102; count(3) = 3; text(#300,00); claimAll() = -108");
    }

    private static void p15ClaimAllInTurn() {
        String coats = "addRack(12, 5); take(0, 1); take(1, 2); take(2, 3); take(3, 4); claim(#200); giveOut(3, 0);";
        s.says("otherwise, of the first tag for which it is so when its turn comes, its error",
            coats + "text(1,#500,#200,#300); claimAll() = BAD_VALUE",
            coats + "text(#500,1,#200,#300); claimAll() = UNKNOWN",
            coats + "text(#200,1,#500,#300); claimAll() = RETURNED",
            coats + "text(#300,1,#500,#200); claimAll() = GONE",
            coats + "text(#0,#100,1,#500); claimAll() = BAD_VALUE",
            coats + "text(#0,#100,#300,#200); claimAll() = GONE",
            coats + "text(0,0,1); claimAll() = RETURNED",
            coats + "text(0,1,0); claimAll() = BAD_VALUE",
            coats + "text(0,#300,0); claimAll() = GONE");
        s.says("when its turn comes: a coat that was returned ahead, by this tag or another one of it",
            "addRack(3, 5); take(0, 1); move(0, 1); text(0,#100); claimAll() = RETURNED; count(3) = 1; count(7) = 0",
            "addRack(3, 5); take(0, 1); move(0, 1); text(#100,0); claimAll() = RETURNED; count(3) = 1",
            "addRack(3, 5); take(0, 1); move(0, 1); text(0); claimAll() = 2; tag(0|#100, 2) = 1; event(0, 1) = 100",
            "addRack(3, 5); take(0, 1); text(0,0); claimAll() = RETURNED; clearText(); text(0,19); claimAll() = UNKNOWN");
    }

    private static void p16Undo() {
        s.part("promise 16");
        s.says("Returns the number of states that are left; NONE if the history is empty",
            "undo() = NONE; set(0, 1); undo() = 0; undo() = NONE; set(0, 1); set(0, 2); set(0, 3); set(0, 0); undo() = 3; undo() = 2;"
            + "undo() = 1; undo() = 0; undo() = NONE",
            "addRack(12, 5); 12 x take(0, 1); undo() = 3; undo() = 2; undo() = 1; undo() = 0; undo() = NONE; count(3) = 8; next(1) = 8");
        s.says("Removes and restores the latest state of the history",
            "set(1, 3); set(1, 4); undo(); count(14) = 3; set(1, 5); count(16) = 2; undo() = 1; count(14) = 3; undo() = 0; count(14) = 2");
    }

    private static void p17Keep() {
        s.part("promise 17");
        s.says("Returns the number of coats that are here",
            "keep() = 0; addRack(12, 5); keep() = 0; 12 x take(0, 1); keep() = 12; claim(0); keep() = 11; giveOut(0, 0); keep() = 10;"
            + "pass(31) = 10; keep() = 0",
            "5 x addRack(12, 5); 60 x take(0, 1); keep() = 60; pass(31) = 60; restore() = 60; hook(59, 1) = 1");
        s.says("in place of the one that was", "keep(); set(1, 3); keep(); set(1, 4); restore() = 0; count(14) = 3");
        s.says("Takes a snapshot of the state: what comes later is not in it",
            "addRack(2, 5); take(0, 1); keep() = 1; take(0, 1); claim(0); set(1, 9); restore() = 1; due(0) = 2; hook(1, 1) = 0");
    }

    private static void p18Restore() {
        s.part("promise 18");
        s.says("NONE if there is no snapshot",
            "restore() = NONE; set(1, 3); undo(); restore() = NONE; count(16) = 0; keep(); restore() = 0; count(16) = 1");
        s.says("Restores the state of the snapshot, which stays",
            "addRack(1, 5); take(0, 1); keep() = 1; claim(0); restore() = 1; due(0) = 2; claim(0) = 2; restore() = 1; claim(0) = 2;"
            + "restore() = 1; restore() = 1; count(16) = 4",
            "keep(); addRack(1, 5); restore() = 0; count(1) = 0; addRack(2, 4) = 0; rack(0, 0) = 2; rack(0, 1) = 4");
        s.says("Returns the number of coats that are here then",
            "addRack(2, 5); 2 x take(0, 1); keep() = 2; claim(0); claim(#100); count(3) = 0; restore() = 2; count(3) = 2");
        s.says("This is an act",
            "keep(); set(1, 9); count(16) = 1; restore() = 0; count(16) = 2; count(14) = 2; undo() = 1; count(14) = 9; undo() = 0;"
            + "count(14) = 2; restore() = 0; undo() = 0");
    }

    private static void p19Rack() {
        s.part("promise 19");
        s.says("rack: a rack",
            "rack(0, 0) = UNKNOWN; addRack(1, 1); rack(0, 0) = 1; rack(1|-1|MIN|MAX, 0) = UNKNOWN",
            "5 x addRack(3, 1); rack(4, 0) = 3; rack(5|6, 0) = UNKNOWN");
        s.says("Returns the number; UNKNOWN; BAD_VALUE",
            "rack(0, -1|6) = UNKNOWN; addRack(3, 4); rack(0, -1|6|MIN|MAX) = BAD_VALUE; rack(1|-1, -1|6|MIN|MAX) = UNKNOWN");
        s.says("what: 0 for its hooks, 1 for its size, 2 for whether it is open (1, otherwise 0)",
            "addRack(12, 1); addRack(1, 5); rack(0, 0) = 12; rack(0, 1) = 1; rack(0, 2) = 1; rack(1, 0) = 1; rack(1, 1) = 5;"
            + "open(1, false); rack(1, 2) = 0; rack(0, 2) = 1");
        s.says("3 for the coats on it, 4 for its retired hooks, 5 for the sum of the years of its hooks",
            "addRack(12, 5); rack(0, 3|4|5) = 0; 12 x take(0, 1); rack(0, 3) = 12; claim(0); rack(0, 3) = 11; rack(0, 5) = 1; age(0, 99);"
            + "rack(0, 5) = 99; rack(0, 4) = 0; take(0, 1) = #99; claim(#99); rack(0, 4) = 1; rack(0, 5) = 99; giveOut(0, 10);"
            + "rack(0, 5) = 100; rack(0, 3) = 10");
    }

    private static void p20Hook() {
        s.part("promise 20");
        s.says("hook: a hook", "addRack(2, 5); addRack(12, 5); hook(0|1|12|23, 0) = 0; hook(2|11|24|60|-1|MIN|MAX, 0) = UNKNOWN");
        s.says("Returns the number; UNKNOWN; BAD_VALUE",
            "hook(0, -1|8) = UNKNOWN; addRack(1, 5); hook(0, -1|8|MIN|MAX) = BAD_VALUE; hook(1|-1, -1|8|MIN|MAX) = UNKNOWN; take(0, 1);"
            + "hook(0, -1|8) = BAD_VALUE");
        s.says("what: 0 for its year, 1 for whether it holds a coat, 2 for whether it is retired (1, otherwise 0)",
            "addRack(1, 5); hook(0, 0|1|2) = 0; age(0, 99); hook(0, 0) = 99; hook(0, 1|2) = 0; take(0, 1); hook(0, 1) = 1; hook(0, 2) = 0;"
            + "claim(#99); hook(0, 0) = 99; hook(0, 1) = 0; hook(0, 2) = 1");
        s.says("3 to 6: NONE if it holds none",
            "addRack(2, 5); hook(0, 3|4|5|6) = NONE; pass(60); take(19, 5); hook(0, 3) = 19; hook(0, 4) = 5; hook(0, 5) = 60;"
            + "hook(0, 6) = #0; hook(1, 3|4|5|6) = NONE; move(0, 1); hook(0, 3|4|5|6) = NONE; hook(1, 3) = 19; hook(1, 4) = 5;"
            + "hook(1, 5) = 60; hook(1, 6) = #100; claim(0); hook(1, 3|4|5|6) = NONE");
        s.says("7 for how many coats have left it",
            "addRack(2, 5); hook(0, 7) = 0; age(0, 98); hook(0, 7) = 0; take(0, 1); hook(0, 7) = 0; claim(#98); hook(0, 7) = 1; take(0, 1);"
            + "move(#99, 1); hook(0, 7) = 2; hook(1, 7) = 0; hook(0, 2) = 1");
    }

    private static void p21Tag() {
        s.part("promise 21");
        String coats = "addRack(3, 5); take(7, 1); take(8, 1); move(0, 2);";
        s.says("Returns the number; BAD_VALUE if it is not from 0 to 59999, or its check digit is wrong, or what is out of range; UNKNOWN if "
            + "its handle was never given",
            coats + "tag(-1|60000|60008|MIN|MAX, 0) = BAD_VALUE; tag(1|9|59999, 0|5) = BAD_VALUE;"
            + "tag(0|#100|#1|59998, -1|6|MIN|MAX) = BAD_VALUE; tag(1, 6) = BAD_VALUE; tag(#1|59998, 0|1|2|3|4|5) = UNKNOWN");
        s.says("what: 0 for the hook on which its coat is (NONE if it is not here)",
            coats + "tag(0, 0) = 2; tag(#200, 0) = 2; tag(#100, 0) = 1; claim(0); tag(0|#200, 0) = NONE; giveOut(8, 0);"
            + "tag(#100, 0) = NONE; take(0, 1) = #1; tag(#1, 0) = 0; pass(31); tag(#1, 0) = NONE");
        s.says("1 for its way, 2 for its end",
            coats + "tag(0, 1) = 1; tag(#200|#100, 1) = 0; tag(0|#100|#200, 2) = 0; claim(#200); tag(0|#200, 2) = 1; tag(#100, 2) = 0;"
            + "tag(0, 1) = 1");
        s.says("3 for the tag of the last handle to which one gets, 4 for the tag of the handle that follows it at once (NONE if none does)",
            coats + "tag(0, 3|4) = #200; tag(#200, 3) = #200; tag(#200|#100, 4) = NONE; tag(#100, 3) = #100; move(0, 0); tag(0, 3) = #1;"
            + "tag(0, 4) = #200; tag(#200, 3|4) = #1; claim(0); tag(0, 3) = #1; tag(#1, 4) = NONE");
        s.says("5 for the guest of its coat, here or not",
            coats + "tag(0|#200, 5) = 7; tag(#100, 5) = 8; claim(0); tag(0|#200, 5) = 7; giveOut(8, 0); tag(#100, 5) = 8; take(19, 1);"
            + "pass(31); tag(#1, 5) = 19");
        s.says("a tag, valid or not: NONE is told ahead of no error",
            coats + "claim(0); tag(0, 0) = NONE; tag(0, 6) = BAD_VALUE; tag(#200, 4) = NONE");
    }

    private static void p22TagOf() {
        s.part("promise 22");
        s.says("handle: 0 to 5999", "tagOf(0) = 0; tagOf(5999) = 59998; tagOf(-1|6000|MIN|MAX) = BAD_VALUE");
        s.says("Returns the tag of this handle, given or not",
            "tagOf(0) = 0; tagOf(100) = 1001; addRack(2, 5); take(0, 1) = 0; take(0, 1) = 1001; tagOf(0) = 0; tagOf(100) = 1001;"
            + "tagOf(1) = 19");
    }

    private static void p23Guest() {
        s.part("promise 23");
        s.says("guest: a guest", "guest(0|19, 0|1|2) = 0; guest(-1|20|MIN|MAX, 0) = UNKNOWN");
        s.says("Returns the number; UNKNOWN; BAD_VALUE", "guest(0|19, -1|3|MIN|MAX) = BAD_VALUE; guest(-1|20, -1|3) = UNKNOWN");
        s.says("what: 0 for the guest's coats that are here, 1 for what is due for all of them by tags now, 2 for the coats that were taken "
            + "in for the guest so far",
            "addRack(4, 5); take(19, 5); take(19, 1); take(0, 4); guest(19, 0) = 2; guest(19, 1) = 4; guest(19, 2) = 2; pass(2);"
            + "guest(19, 1) = 24; guest(0, 1) = 16; claim(0); guest(19, 0) = 1; guest(19, 1) = 4; guest(19, 2) = 2; move(#100, 3);"
            + "guest(19, 0) = 1; guest(19, 2) = 2; giveOut(19, 0); guest(19, 0|1) = 0; guest(19, 2) = 2; pass(60); guest(0, 0|1) = 0;"
            + "guest(0, 2) = 1");
    }

    private static void p24Next() {
        s.part("promise 24");
        s.says("size: 1 to 5", "addRack(1, 5); next(0|-1|6|MIN|MAX) = BAD_VALUE; next(1|2|3|4|5) = 0");
        s.says("Returns the hook that would take a coat of this size now; BAD_VALUE; NONE if none is free for it",
            "next(1|5) = NONE; next(0|6) = BAD_VALUE; addRack(1, 1); addRack(1, 4); next(1) = 0; next(2|4) = 12; next(5) = NONE;"
            + "take(0, 1); next(1) = 12; take(0, 1); next(1|2|4|5) = NONE; next(0|6) = BAD_VALUE");
    }

    private static void p25Due() {
        s.part("promise 25");
        s.says("Returns what is due for its coat by the tag now; the errors of a tag",
            "due(0) = UNKNOWN; due(1) = BAD_VALUE; addRack(2, 5); take(0, 5); due(0) = 2; pass(30); due(0) = 300; move(0, 1);"
            + "due(0|#100) = 300; set(1, 0); due(0) = 0; set(1, 50); due(0) = 7500; count(11) = 0; claim(0) = 7500; due(0) = RETURNED",
            "addRack(2, 5); take(0, 5); giveOut(0, 0); due(0) = GONE; due(1|-1|60000|59999|MIN|MAX) = BAD_VALUE; due(#1|59998) = UNKNOWN");
    }

    private static void p26Event() {
        s.part("promise 26");
        s.says("back: 0 for the latest event, 1 for the one before, and so on",
            "addRack(2, 5); take(0, 1); pass(1); take(0, 1); event(0, 1) = 100; event(0, 2) = 1; event(1, 1) = 0; event(1, 2) = 0;"
            + "event(2, 1) = NONE");
        s.says("Returns the number; BAD_VALUE (back is negative, or what); NONE if there is none",
            "event(-1|MIN, 0) = BAD_VALUE; event(0|10|MAX, -1|3|MIN|MAX) = BAD_VALUE; event(-1, 3) = BAD_VALUE;"
            + "event(0|9|10|MAX, 0|1|2) = NONE; addRack(1, 5); take(0, 1); event(0, 0|1|2) = 0; event(1|9|10|MAX, 0|1|2) = NONE;"
            + "event(-1|MIN, 0) = BAD_VALUE; event(0|1, -1|3) = BAD_VALUE");
        s.says("what: 0 for its kind, 1 for the handle (of 1: the new one; of the others: the one that the coat had on its hook), 2 for its "
            + "day",
            "addRack(2, 5); pass(3); take(0, 1); pass(1); move(0, 1); event(0, 0) = 1; event(0, 1) = 100; event(0, 2) = 4; event(1, 0) = 0;"
            + "event(1, 1) = 0; event(1, 2) = 3; claim(0); event(0, 0) = 2; event(0, 1) = 100; take(0, 1) = #1; giveOut(0, 0);"
            + "event(0, 0) = 3; event(0, 1) = 1; take(0, 1) = #2; pass(60); event(0, 0) = 4; event(0, 1) = 2; event(0, 2) = 35");
    }

    private static void p27Count() {
        s.part("promise 27");
        s.says("Returns the number; BAD_VALUE", "count(-1|18|MIN|MAX) = BAD_VALUE; count(0|17) = 0");
        s.says("0 for the day, 1 for racks, 2 for hooks of all racks, 3 for coats that are here, 4 for retired hooks",
            "5 x addRack(12, 5); count(1) = 5; count(2) = 60; 60 x take(0, 1); count(3) = 60; open(4, false); count(2|3) = 60; pass(31);"
            + "count(0) = 31; count(3|4) = 0",
            "addRack(1, 5); addRack(1, 5); age(0, 99); age(12, 99); take(0, 1); take(0, 1); count(4) = 0; claim(#99); count(4) = 1;"
            + "count(2) = 2; giveOut(0, 0); count(4) = 2; open(0, false); count(4) = 2");
        s.says("5 for handles that were given so far, 6 for coats taken in so far, 7 for those returned by tags, 8 for those given out "
            + "without one, 9 for those auctioned, 10 for moves so far",
            "addRack(4, 5); count(5|6|7|8|9|10) = 0; 4 x take(0, 1); count(5|6) = 4; claim(0); count(7) = 1; giveOut(0, 0); count(8) = 1;"
            + "move(#200, 0); count(5) = 5; count(6) = 4; count(10) = 1; text(#200); claimAll(); count(7) = 2; pass(31); count(9) = 1;"
            + "count(5) = 5; count(6) = 4; count(8) = 1; count(10) = 1",
            "addRack(12, 5); addRack(12, 5); 12 x take(0, 1); moveAll(0, 1); count(10) = 12; count(5) = 24; count(6) = 12; pass(31);"
            + "count(9) = 12; 5 x take(0, 1); count(6) = 17; count(10) = 12");
        s.says("11 for all that was earned",
            "addRack(3, 5); count(11) = 0; 3 x take(0, 2); claim(0); count(11) = 2; giveOut(0, 0); count(11) = 54; pass(31);"
            + "count(11) = 74; set(1, 0); take(0, 1); claim(#1); count(11) = 74");
        s.says("12 for the greatest way of all handles (0 without any)",
            "count(12) = 0; addRack(3, 5); take(0, 1); take(0, 1); count(12) = 0; move(0, 2); count(12) = 1; move(0, 0); count(12) = 2;"
            + "claim(0); count(12) = 2; shorten(); count(12) = 1");
        s.says("13 for the rule, 14 for the rent, 15 for the limit",
            "count(13) = 0; count(14) = 2; count(15) = 30; set(0, 3); set(1, 50); set(2, 99); count(13) = 3; count(14) = 50;"
            + "count(15) = 99; set(1, 0); set(2, 1); count(14) = 0; count(15) = 1");
        s.says("16 for the states in the history, 17 for the length of the text",
            "count(16|17) = 0; type(48); count(17) = 1; count(16) = 0; 5 x addRack(1, 1); count(16) = 4; undo(); count(16) = 3;"
            + "60 x type(48); count(17) = 60; clearText(); count(17) = 0");
    }
}
