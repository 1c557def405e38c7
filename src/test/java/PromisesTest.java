/** One part for each promise of the document: ordinary inputs, edges and wrong inputs. */
public final class PromisesTest {
    private static final int UNKNOWN = -1;
    private static final int BAD_VALUE = -2;
    private static final int FULL = -3;
    private static final int NOT_POSSIBLE = -4;
    private static final int NONE = -5;
    private static final int RETURNED = -6;
    private static final int GONE = -7;
    private static final int[] WILD = {Integer.MIN_VALUE, -60000, -13, -2, -1, 99, 60000, Integer.MAX_VALUE};

    private static final Expect e = new Expect();

    public static void main(String[] args) {
        constants();
        p01NewObject();
        p02AddRack();
        p03Open();
        p04Age();
        p05Set();
        p06Take();
        p06TakeByRules();
        p07Claim();
        p08GiveOut();
        p09Move();
        p10MoveAll();
        p11Shorten();
        p12Pass();
        p13Type();
        p14ClearText();
        p15ClaimAllFaults();
        p15ClaimAll();
        p16Undo();
        p16EachActRecords();
        p17Keep();
        p18Restore();
        p19Rack();
        p20Hook();
        p21Tag();
        p22TagOf();
        p23Guest();
        p24Next();
        p25Due();
        p26Event();
        p27Count();
        e.end();
    }

    private static YearTags room(int... hooksAndSizes) {
        YearTags x = new YearTags();
        for (int i = 0; i + 1 < hooksAndSizes.length; i += 2) {
            x.addRack(hooksAndSizes[i], hooksAndSizes[i + 1]);
        }
        return x;
    }

    private static void typeAll(YearTags x, String characters) {
        x.clearText();
        for (int i = 0; i < characters.length(); i++) {
            x.type(characters.charAt(i));
        }
    }

    private static void constants() {
        e.part("constants");
        e.due("UNKNOWN", UNKNOWN, YearTags.UNKNOWN);
        e.due("BAD_VALUE", BAD_VALUE, YearTags.BAD_VALUE);
        e.due("FULL", FULL, YearTags.FULL);
        e.due("NOT_POSSIBLE", NOT_POSSIBLE, YearTags.NOT_POSSIBLE);
        e.due("NONE", NONE, YearTags.NONE);
        e.due("RETURNED", RETURNED, YearTags.RETURNED);
        e.due("GONE", GONE, YearTags.GONE);
    }

    private static void p01NewObject() {
        e.part("1 new object");
        YearTags x = new YearTags();
        int[] want = {0, 0, 0, 0, 0, 0, 0, 0, 0, 0, 0, 0, 0, 0, 2, 30, 0, 0};
        for (int what = 0; what < want.length; what++) {
            e.due("count(" + what + ")", want[what], x.count(what));
        }
        e.due("rack(0, 0)", UNKNOWN, x.rack(0, 0));
        e.due("hook(0, 0)", UNKNOWN, x.hook(0, 0));
        e.due("next(1)", NONE, x.next(1));
        e.due("take(0, 1)", FULL, x.take(0, 1));
        e.due("undo()", NONE, x.undo());
        e.due("restore()", NONE, x.restore());
        e.due("event(0, 0)", NONE, x.event(0, 0));
        e.due("claim(0)", UNKNOWN, x.claim(0));
        e.due("claimAll()", -100, x.claimAll());
    }

    private static void p02AddRack() {
        e.part("2 addRack");
        YearTags x = new YearTags();
        e.due("addRack(0, 1)", BAD_VALUE, x.addRack(0, 1));
        e.due("addRack(13, 1)", BAD_VALUE, x.addRack(13, 1));
        e.due("addRack(1, 0)", BAD_VALUE, x.addRack(1, 0));
        e.due("addRack(1, 6)", BAD_VALUE, x.addRack(1, 6));
        for (int wild : WILD) {
            e.due("addRack(wild, 1)", BAD_VALUE, x.addRack(wild, 1));
            e.due("addRack(1, wild)", BAD_VALUE, x.addRack(1, wild));
        }
        e.due("count(16)", 0, x.count(16));
        int[] hooks = {1, 12, 3, 4, 5};
        int[] sizes = {5, 1, 2, 3, 4};
        for (int i = 0; i < 5; i++) {
            e.due("addRack", i, x.addRack(hooks[i], sizes[i]));
            e.due("its hooks", hooks[i], x.rack(i, 0));
            e.due("its size", sizes[i], x.rack(i, 1));
            e.due("it is open", 1, x.rack(i, 2));
        }
        e.due("addRack(1, 1)", FULL, x.addRack(1, 1));
        e.due("addRack(0, 1)", BAD_VALUE, x.addRack(0, 1));
        e.due("count(1)", 5, x.count(1));
        e.due("undo()", 3, x.undo());
        e.due("count(1)", 4, x.count(1));
        e.due("addRack(7, 2)", 4, x.addRack(7, 2));
        e.due("rack(4, 0)", 7, x.rack(4, 0));
    }

    private static void p03Open() {
        e.part("3 open");
        YearTags x = room(3, 5, 2, 5);
        for (int wild : WILD) {
            e.due("open(wild, false)", UNKNOWN, x.open(wild, false));
        }
        e.due("open(2, true)", UNKNOWN, x.open(2, true));
        e.due("open(0, true)", NONE, x.open(0, true));
        int tag = x.take(0, 1);
        x.take(0, 1);
        e.due("open(0, false)", 2, x.open(0, false));
        e.due("open(0, false)", NONE, x.open(0, false));
        e.due("rack(0, 2)", 0, x.rack(0, 2));
        e.due("coats stay", 2, x.rack(0, 3));
        e.due("next(1)", 12, x.next(1));
        e.due("move onto it", NOT_POSSIBLE, x.move(tag, 2));
        e.due("a coat can be claimed", 2, x.claim(tag));
        e.due("open(1, false)", 0, x.open(1, false));
        e.due("take(0, 1)", FULL, x.take(0, 1));
        e.due("open(0, true)", 1, x.open(0, true));
        e.due("next(1)", 0, x.next(1));
    }

    private static void p04Age() {
        e.part("4 age");
        YearTags x = room(3, 5);
        for (int wild : WILD) {
            e.due("age(wild, 1)", UNKNOWN, x.age(wild, 1));
        }
        e.due("age(3, 1)", UNKNOWN, x.age(3, 1));
        e.due("age(0, 0)", BAD_VALUE, x.age(0, 0));
        e.due("age(0, -1)", BAD_VALUE, x.age(0, -1));
        e.due("age(0, 100)", BAD_VALUE, x.age(0, 100));
        e.due("age(0, 7)", 0, x.age(0, 7));
        e.due("age(0, 7)", BAD_VALUE, x.age(0, 7));
        e.due("age(0, 98)", 7, x.age(0, 98));
        e.due("nothing left", 0, x.hook(0, 7));
        int tag = x.take(0, 1);
        e.due("tag", x.tagOf(98), tag);
        e.due("age of a hook with a coat", NOT_POSSIBLE, x.age(0, 99));
        e.due("age of it, bad year", BAD_VALUE, x.age(0, 98));
        x.claim(tag);
        e.due("year", 99, x.hook(0, 0));
        e.due("not retired", 0, x.hook(0, 2));
        x.claim(x.take(0, 1));
        e.due("retired", 1, x.hook(0, 2));
        e.due("year", 99, x.hook(0, 0));
        e.due("age of a retired hook", BAD_VALUE, x.age(0, 99));
        e.due("age of a retired hook", BAD_VALUE, x.age(0, 100));
        x.open(0, false);
        e.due("age on a closed rack", 0, x.age(2, 99));
        e.due("undo()", 3, x.undo());
        e.due("year again", 0, x.hook(2, 0));
    }

    private static void p05Set() {
        e.part("5 set");
        YearTags x = new YearTags();
        int[] low = {0, 0, 1};
        int[] high = {3, 50, 99};
        int[] first = {0, 2, 30};
        for (int what = 0; what < 3; what++) {
            e.due("set to what it is", NONE, x.set(what, first[what]));
            e.due("set below", BAD_VALUE, x.set(what, low[what] - 1));
            e.due("set above", BAD_VALUE, x.set(what, high[what] + 1));
            e.due("set highest", first[what], x.set(what, high[what]));
            e.due("set lowest", high[what], x.set(what, low[what]));
            e.due("count", low[what], x.count(13 + what));
            for (int wild : new int[] {Integer.MIN_VALUE, Integer.MAX_VALUE}) {
                e.due("set wild", BAD_VALUE, x.set(what, wild));
            }
        }
        for (int wild : WILD) {
            e.due("set(wild, 1)", BAD_VALUE, x.set(wild, 1));
        }
        e.due("set(3, 1)", BAD_VALUE, x.set(3, 1));
        e.due("undo()", 3, x.undo());
        e.due("count(15)", 99, x.count(15));
    }

    private static void p06Take() {
        e.part("6 take");
        YearTags x = room(2, 2, 1, 5);
        for (int wild : WILD) {
            e.due("take(wild, 1)", UNKNOWN, x.take(wild, 1));
            e.due("take(0, wild)", BAD_VALUE, x.take(0, wild));
        }
        e.due("take(20, 0)", UNKNOWN, x.take(20, 0));
        e.due("take(0, 0)", BAD_VALUE, x.take(0, 0));
        e.due("take(0, 6)", BAD_VALUE, x.take(0, 6));
        e.due("count(16)", 2, x.count(16));
        e.due("take(19, 3)", x.tagOf(1200), x.take(19, 3));
        e.due("take(0, 3)", FULL, x.take(0, 3));
        e.due("take(0, 2)", 0, x.take(0, 2));
        e.due("take(0, 1)", x.tagOf(100), x.take(0, 1));
        e.due("take(0, 1)", FULL, x.take(0, 1));
        e.due("guest", 19, x.hook(12, 3));
        e.due("size", 3, x.hook(12, 4));
        e.due("day", 0, x.hook(12, 5));
        e.due("kind", 0, x.event(0, 0));
        e.due("handle", 100, x.event(0, 1));
        e.due("count(16)", 4, x.count(16));
    }

    private static void p06TakeByRules() {
        e.part("6 take by rules");
        YearTags x = room(4, 5);
        int[] tags = new int[4];
        for (int i = 0; i < 4; i++) {
            tags[i] = x.take(0, 1);
        }
        x.claim(tags[2]);
        x.claim(tags[0]);
        x.claim(tags[1]);
        e.due("lowest number", 0, x.next(1));
        x.set(0, 1);
        e.due("left latest", 1, x.next(1));
        x.set(0, 2);
        e.due("left longest ago", 2, x.next(1));
        x.age(0, 5);
        x.age(1, 3);
        x.age(2, 3);
        x.set(0, 3);
        e.due("lowest year, of several the lowest number", 1, x.next(1));
        x.addRack(2, 5);
        e.due("lowest year 0", 12, x.next(1));
        x.set(0, 2);
        e.due("never left is longest ago", 12, x.next(1));
        x.set(0, 1);
        e.due("never left is not latest", 1, x.next(1));
        x.open(0, false);
        e.due("none left, lowest number", 12, x.next(1));
        e.due("take by the rule", x.tagOf(1200), x.take(0, 1));

        e.part("6 take, within a call each leaving counts");
        YearTags y = room(3, 5);
        for (int i = 0; i < 3; i++) {
            y.take(0, 1);
        }
        y.set(2, 1);
        e.due("pass(2)", 3, y.pass(2));
        y.set(0, 1);
        e.due("latest", 2, y.next(1));
        y.set(0, 2);
        e.due("longest ago", 0, y.next(1));
        y.addRack(3, 5);
        y.set(0, 0);
        y.take(0, 1);
        y.take(0, 1);
        y.moveAll(0, 1);
        y.set(0, 1);
        e.due("latest after moveAll", 1, y.next(1));
    }

    private static void p07Claim() {
        e.part("7 claim");
        YearTags x = room(2, 5, 2, 5);
        for (int wild : new int[] {Integer.MIN_VALUE, -1, 60000, Integer.MAX_VALUE, 1, 2, 18}) {
            e.due("claim(" + wild + ")", BAD_VALUE, x.claim(wild));
        }
        e.due("above the greatest tag, with its check", BAD_VALUE, x.claim(60008));
        e.due("never given", UNKNOWN, x.claim(0));
        e.due("greatest tag, never given", UNKNOWN, x.claim(x.tagOf(5999)));
        int tag = x.take(3, 4);
        e.due("never given", UNKNOWN, x.claim(x.tagOf(1)));
        e.due("at least the rent once", 2, x.claim(tag));
        e.due("again", RETURNED, x.claim(tag));
        e.due("a hook's next handle is not given", UNKNOWN, x.claim(x.tagOf(1)));
        e.due("year", 1, x.hook(0, 0));
        int second = x.take(3, 4);
        e.due("tag of the next year", x.tagOf(1), second);
        x.pass(1);
        e.due("size * rent", 8, x.due(second));
        x.pass(2);
        int moved = x.move(second, 13);
        e.due("by the old tag, for all days", 24, x.claim(second));
        e.due("by the new tag", RETURNED, x.claim(moved));
        e.due("earned", 26, x.count(11));
        e.due("handle in the log", 1300, x.event(0, 1));
        e.due("kind in the log", 2, x.event(0, 0));
        int third = x.take(0, 5);
        x.set(1, 0);
        x.pass(5);
        e.due("without rent", 0, x.claim(third));
        e.due("returned", 3, x.count(7));
    }

    private static void p08GiveOut() {
        e.part("8 giveOut");
        YearTags x = room(5, 5);
        int[] tags = new int[4];
        for (int i = 0; i < 4; i++) {
            tags[i] = x.take(i % 2, i + 1);
        }
        for (int wild : WILD) {
            e.due("giveOut(wild, 0)", UNKNOWN, x.giveOut(wild, 0));
            e.due("giveOut(0, wild)", UNKNOWN, x.giveOut(0, wild));
        }
        e.due("giveOut(20, 0)", UNKNOWN, x.giveOut(20, 0));
        e.due("giveOut(0, 2)", UNKNOWN, x.giveOut(0, 2));
        e.due("giveOut(2, 0)", UNKNOWN, x.giveOut(2, 0));
        x.pass(3);
        e.due("giveOut(1, 1)", 4 * 2 * 3 + 50, x.giveOut(1, 1));
        e.due("its tag", GONE, x.claim(tags[3]));
        e.due("its end", 2, x.tag(tags[3], 2));
        e.due("giveOut(0, 0)", 1 * 2 * 3 + 50, x.giveOut(0, 0));
        e.due("giveOut(0, 0)", 3 * 2 * 3 + 50, x.giveOut(0, 0));
        e.due("giveOut(0, 0)", UNKNOWN, x.giveOut(0, 0));
        e.due("earned", 74 + 56 + 68, x.count(11));
        e.due("given out", 3, x.count(8));
        e.due("kind", 3, x.event(0, 0));
        e.due("handle", 200, x.event(0, 1));
        e.due("undo()", 3, x.undo());
        e.due("here again", 1, x.guest(0, 0));
    }

    private static void p09Move() {
        e.part("9 move");
        YearTags x = room(2, 5, 3, 2);
        int tag = x.take(7, 3);
        int small = x.take(8, 2);
        e.due("bad tag", BAD_VALUE, x.move(tag + 1, 99));
        e.due("tag not given", UNKNOWN, x.move(x.tagOf(1), 12));
        for (int wild : WILD) {
            e.due("move(tag, wild)", UNKNOWN, x.move(tag, wild));
        }
        e.due("no such hook", UNKNOWN, x.move(tag, 2));
        e.due("no such hook", UNKNOWN, x.move(tag, 15));
        e.due("too small", NOT_POSSIBLE, x.move(tag, 12));
        e.due("to where it is", NOT_POSSIBLE, x.move(tag, 0));
        e.due("to another coat", NOT_POSSIBLE, x.move(tag, 1));
        x.pass(2);
        e.due("move(small, 14)", x.tagOf(1400), x.move(small, 14));
        e.due("old hook's year", 1, x.hook(1, 0));
        e.due("old hook is empty", 0, x.hook(1, 1));
        e.due("left", 1, x.hook(1, 7));
        e.due("the day stays", 0, x.hook(14, 5));
        e.due("the guest stays", 8, x.hook(14, 3));
        e.due("the size stays", 2, x.hook(14, 4));
        e.due("kind", 1, x.event(0, 0));
        e.due("handle", 1400, x.event(0, 1));
        e.due("by the old tag", x.tagOf(101), x.move(small, 1));
        e.due("way", 2, x.tag(small, 1));
        e.due("moves", 2, x.count(10));
        x.claim(small);
        e.due("returned", RETURNED, x.move(small, 99));
        x.giveOut(7, 0);
        e.due("gone", GONE, x.move(tag, 0));
        x.age(13, 99);
        x.claim(x.move(x.take(0, 1), 13));
        e.due("retired", 1, x.hook(13, 2));
        e.due("to a retired hook", NOT_POSSIBLE, x.move(x.take(0, 1), 13));
    }

    private static void p10MoveAll() {
        e.part("10 moveAll");
        YearTags x = room(4, 5, 4, 3, 2, 5);
        e.due("moveAll(0, 3)", UNKNOWN, x.moveAll(0, 3));
        e.due("moveAll(3, 0)", UNKNOWN, x.moveAll(3, 0));
        e.due("moveAll(3, 3)", UNKNOWN, x.moveAll(3, 3));
        e.due("moveAll(-1, 0)", UNKNOWN, x.moveAll(-1, 0));
        e.due("moveAll(0, 0)", BAD_VALUE, x.moveAll(0, 0));
        e.due("moveAll(0, 1)", NONE, x.moveAll(0, 1));
        x.open(1, false);
        e.due("none to a closed rack", NONE, x.moveAll(0, 1));
        int one = x.take(1, 3);
        e.due("to a closed rack", NOT_POSSIBLE, x.moveAll(0, 1));
        x.open(1, true);
        int two = x.take(2, 4);
        int three = x.take(3, 1);
        e.due("one is too great", NOT_POSSIBLE, x.moveAll(0, 1));
        e.due("too many", NOT_POSSIBLE, x.moveAll(0, 2));
        e.due("none was moved", 0, x.count(10));
        e.due("none was moved", 3, x.rack(0, 3));
        x.claim(two);
        x.move(x.take(4, 1), 12);
        e.due("moveAll(0, 1)", 2, x.moveAll(0, 1));
        e.due("one", 13, x.tag(one, 0));
        e.due("three", 14, x.tag(three, 0));
        e.due("moves", 3, x.count(10));
        e.due("log", 1400, x.event(0, 1));
        e.due("log", 1300, x.event(1, 1));
        e.due("undo()", 3, x.undo());
        e.due("both are back", 0, x.tag(one, 0));
        e.due("both are back", 2, x.tag(three, 0));
        x.age(24, 99);
        x.claim(x.move(one, 24));
        e.due("retired hooks hold none", 1, x.moveAll(0, 2));
        e.due("three", 25, x.tag(three, 0));
    }

    private static void p11Shorten() {
        e.part("11 shorten");
        YearTags x = room(2, 5, 2, 5);
        e.due("shorten()", NONE, x.shorten());
        int first = x.take(0, 1);
        int second = x.move(first, 12);
        e.due("ways of 1", NONE, x.shorten());
        int third = x.move(second, 1);
        int fourth = x.move(third, 13);
        e.due("count(12)", 3, x.count(12));
        e.due("shorten()", 2, x.shorten());
        e.due("count(12)", 1, x.count(12));
        e.due("follows first", fourth, x.tag(first, 4));
        e.due("follows second", fourth, x.tag(second, 4));
        e.due("follows third", fourth, x.tag(third, 4));
        e.due("follows fourth", NONE, x.tag(fourth, 4));
        int fifth = x.move(first, 0);
        e.due("ways of 2", 3, x.shorten());
        e.due("follows first", fifth, x.tag(first, 4));
        e.due("undo()", 3, x.undo());
        e.due("ways of 2 again", 2, x.count(12));
        x.claim(first);
        e.due("of a coat that left", 3, x.shorten());
        e.due("nothing else changes", RETURNED, x.claim(second));
    }

    private static void p12Pass() {
        e.part("12 pass");
        YearTags x = room(4, 5);
        for (int wild : new int[] {Integer.MIN_VALUE, -1, 0, 61, Integer.MAX_VALUE}) {
            e.due("pass(" + wild + ")", BAD_VALUE, x.pass(wild));
        }
        int tag = x.take(0, 3);
        e.due("pass(30)", 0, x.pass(30));
        e.due("at the limit it is here", 1, x.hook(0, 1));
        x.take(0, 5);
        e.due("pass(1)", 1, x.pass(1));
        e.due("earned", 30, x.count(11));
        e.due("gone", GONE, x.claim(tag));
        e.due("end", 3, x.tag(tag, 2));
        e.due("day", 31, x.count(0));
        e.due("kind", 4, x.event(0, 0));
        e.due("handle", 0, x.event(0, 1));
        e.due("day in the log", 31, x.event(0, 2));
        x.set(2, 5);
        e.due("with a lower limit", 0, x.pass(4));
        e.due("with a lower limit", 1, x.pass(60));
        e.due("the day it came to be too long", 36, x.event(0, 2));
        e.due("auctioned", 2, x.count(9));
        e.due("earned", 80, x.count(11));
        x.set(2, 30);
        int moved = x.take(1, 1);
        x.pass(20);
        x.move(moved, 3);
        e.due("moving does not begin anew", 1, x.pass(11));
        e.due("the hook where it was", 300, x.event(0, 1));

        e.part("12 pass to the last day");
        YearTags y = new YearTags();
        for (int i = 0; i < 166; i++) {
            y.pass(60);
        }
        e.due("count(0)", 9960, y.count(0));
        e.due("pass(40)", NOT_POSSIBLE, y.pass(40));
        e.due("pass(61)", BAD_VALUE, y.pass(61));
        e.due("pass(39)", 0, y.pass(39));
        e.due("count(0)", 9999, y.count(0));
        e.due("pass(1)", NOT_POSSIBLE, y.pass(1));
    }

    private static void p13Type() {
        e.part("13 type");
        YearTags x = room(1, 1);
        for (int i = 1; i <= 60; i++) {
            e.due("type", i, x.type((char) (i * 1000)));
        }
        e.due("type 61st", FULL, x.type('1'));
        e.due("count(17)", 60, x.count(17));
        e.due("it is no act", 1, x.count(16));
        x.undo();
        e.due("undo leaves the text", 60, x.count(17));
    }

    private static void p14ClearText() {
        e.part("14 clearText");
        YearTags x = room(1, 1);
        e.due("clearText()", 0, x.clearText());
        x.type('1');
        x.type(',');
        e.due("clearText()", 2, x.clearText());
        e.due("clearText()", 0, x.clearText());
        e.due("count(17)", 0, x.count(17));
        e.due("it is no act", 1, x.count(16));
        e.due("type", 1, x.type('0'));
    }

    private static void fault(int fault, String characters) {
        YearTags x = room(1, 1);
        typeAll(x, characters);
        e.due("claimAll() of \"" + characters + "\"", -100 - fault, x.claimAll());
        e.due("length", characters.length(), x.count(17));
        e.due("states", 1, x.count(16));
    }

    private static void p15ClaimAllFaults() {
        e.part("15 claimAll, faults");
        fault(0, "");
        fault(0, ",");
        fault(0, " 0");
        fault(0, "-1");
        fault(0, "a");
        fault(0, "/");
        fault(0, ":");
        fault(0, "" + (char) 0x660);
        fault(1, "00");
        fault(1, "01");
        fault(1, "0a");
        fault(1, "0 ");
        fault(2, "0,");
        fault(2, "0,,");
        fault(3, "0,00");
        fault(3, "12,");
        fault(5, "123456");
        fault(6, "12345,");
        fault(5, "12345;1");
        fault(7, "0,99999999");
        String many = "0,".repeat(30);
        fault(60, many);
        fault(59, many.substring(0, 58) + "0.");
    }

    private static void p15ClaimAll() {
        e.part("15 claimAll");
        YearTags x = room(12, 5);
        int[] tags = new int[5];
        for (int i = 0; i < 5; i++) {
            tags[i] = x.take(i, i + 1);
        }
        x.pass(2);
        typeAll(x, "99999");
        e.due("too great a tag", BAD_VALUE, x.claimAll());
        typeAll(x, tags[0] + "," + (tags[1] + 1));
        e.due("wrong check", BAD_VALUE, x.claimAll());
        typeAll(x, tags[0] + "," + x.tagOf(500) + "," + (tags[1] + 1));
        e.due("never given", UNKNOWN, x.claimAll());
        typeAll(x, tags[0] + "," + tags[1] + "," + tags[0]);
        e.due("twice", RETURNED, x.claimAll());
        int moved = x.move(tags[2], 11);
        typeAll(x, tags[2] + "," + moved);
        e.due("old and new tag of a coat", RETURNED, x.claimAll());
        e.due("none was returned", 5, x.count(3));
        x.giveOut(4, 0);
        typeAll(x, tags[4] + "," + tags[0]);
        e.due("gone", GONE, x.claimAll());
        x.undo();
        typeAll(x, tags[0] + "," + tags[2] + "," + tags[1]);
        e.due("three", 4 + 12 + 8, x.claimAll());
        e.due("coats", 2, x.count(3));
        e.due("earned", 24, x.count(11));
        e.due("returned", 3, x.count(7));
        e.due("log in their order", 100, x.event(0, 1));
        e.due("log in their order", 1100, x.event(1, 1));
        e.due("log in their order", 0, x.event(2, 1));
        x.set(0, 1);
        e.due("left latest", 1, x.next(1));
        x.undo();
        e.due("the text stays", RETURNED, x.claimAll());
        x.undo();
        e.due("one act", 5, x.count(3));
        e.due("again", 24, x.claimAll());

        e.part("15 claimAll, thirty tags");
        YearTags y = room(12, 5);
        y.take(0, 1);
        typeAll(y, "0,".repeat(29) + "0");
        e.due("the second", RETURNED, y.claimAll());
        typeAll(y, "0");
        e.due("the single digit 0", 2, y.claimAll());
    }

    private static void p16Undo() {
        e.part("16 undo");
        YearTags x = new YearTags();
        e.due("undo()", NONE, x.undo());
        for (int rent = 3; rent <= 8; rent++) {
            x.set(1, rent);
        }
        for (int left = 3; left >= 0; left--) {
            e.due("undo()", left, x.undo());
            e.due("rent", 4 + left, x.count(14));
        }
        e.due("undo()", NONE, x.undo());
        e.due("rent", 4, x.count(14));
        x.addRack(3, 5);
        int tag = x.take(5, 2);
        x.claim(tag);
        x.undo();
        e.due("the year is back", 0, x.hook(0, 0));
        e.due("the guest is back", 5, x.hook(0, 3));
        e.due("earned", 0, x.count(11));
        e.due("log", 0, x.event(0, 0));
        e.due("the tag is valid", 4, x.claim(tag));
        x.undo();
        x.undo();
        e.due("never given", UNKNOWN, x.claim(tag));
        e.due("never taken in", 0, x.guest(5, 2));
        e.due("the same handle again", tag, x.take(6, 1));
        e.due("another guest", 6, x.tag(tag, 5));
    }

    private interface Act {
        int on(YearTags x);
    }

    private static void p16EachActRecords() {
        e.part("16 each act records");
        YearTags x = room(3, 5, 3, 5);
        int tag = x.take(0, 1);
        int moved = x.move(x.move(tag, 12), 1);
        typeAll(x, "" + tag);
        x.keep();
        act(x, "addRack", y -> y.addRack(2, 5));
        act(x, "open", y -> y.open(0, false));
        act(x, "age", y -> y.age(0, 5));
        act(x, "set", y -> y.set(1, 3));
        act(x, "take", y -> y.take(0, 1));
        act(x, "claim", y -> y.claim(moved));
        act(x, "giveOut", y -> y.giveOut(0, 0));
        act(x, "move", y -> y.move(tag, 0));
        act(x, "moveAll", y -> y.moveAll(0, 1));
        act(x, "shorten", y -> y.shorten());
        act(x, "pass", y -> y.pass(1));
        act(x, "claimAll", y -> y.claimAll());
        act(x, "restore", y -> y.restore());

        e.part("16 errors, NONE and what is no act record nothing");
        noAct(x, "addRack", y -> y.addRack(0, 0));
        noAct(x, "open", y -> y.open(9, true));
        noAct(x, "open", y -> y.open(0, true));
        noAct(x, "age", y -> y.age(0, 0));
        noAct(x, "set", y -> y.set(0, 9));
        noAct(x, "set", y -> y.set(0, 0));
        noAct(x, "take", y -> y.take(20, 1));
        noAct(x, "claim", y -> y.claim(1));
        noAct(x, "giveOut", y -> y.giveOut(1, 0));
        noAct(x, "move", y -> y.move(tag, 1));
        noAct(x, "moveAll", y -> y.moveAll(1, 0));
        noAct(x, "pass", y -> y.pass(0));
        noAct(x, "type", y -> y.type(','));
        noAct(x, "claimAll", y -> y.claimAll());
        noAct(x, "clearText", y -> y.clearText());
        noAct(x, "keep", y -> y.keep());
        startFromSnapshot(x);
        x.shorten();
        e.due("shorten()", NONE, x.shorten());
        e.due("states after a second shorten", 2, x.count(16));
    }

    /** Empties the history, but leaves the state of the snapshot in the room. */
    private static void startFromSnapshot(YearTags x) {
        for (int i = 0; i < 4; i++) {
            x.undo();
        }
        e.due("undo()", NONE, x.undo());
        x.restore();
    }

    private static void act(YearTags x, String name, Act act) {
        startFromSnapshot(x);
        e.that(name + " is no error", act.on(x) >= 0);
        e.due("states after " + name, 2, x.count(16));
        e.due("undo()", 1, x.undo());
        e.due("the coat's hook", 1, x.tag(0, 0));
    }

    private static void noAct(YearTags x, String name, Act act) {
        startFromSnapshot(x);
        act.on(x);
        e.due("states after " + name, 1, x.count(16));
    }

    private static void p17Keep() {
        e.part("17 keep");
        YearTags x = room(3, 5);
        e.due("keep()", 0, x.keep());
        x.take(0, 1);
        x.take(0, 1);
        e.due("keep()", 2, x.keep());
        e.due("it is no act", 3, x.count(16));
        x.giveOut(0, 0);
        e.due("in place of the one that was", 2, x.restore());
        x.undo();
        x.undo();
        x.undo();
        e.due("the snapshot is no part of a state", 2, x.restore());
    }

    private static void p18Restore() {
        e.part("18 restore");
        YearTags x = room(3, 5);
        e.due("restore()", NONE, x.restore());
        e.due("count(16)", 1, x.count(16));
        int tag = x.take(0, 4);
        x.set(0, 3);
        x.pass(3);
        x.keep();
        typeAll(x, "12");
        e.due("claim", 24, x.claim(tag));
        x.addRack(4, 4);
        x.open(0, false);
        e.due("restore()", 1, x.restore());
        e.due("the text stays", 2, x.count(17));
        e.due("racks", 1, x.count(1));
        e.due("open", 1, x.rack(0, 2));
        e.due("the tag is valid", 24, x.claim(tag));
        e.due("the snapshot stays", 1, x.restore());
        e.due("states", 4, x.count(16));
        e.due("undo()", 3, x.undo());
        e.due("undone", RETURNED, x.claim(tag));
    }

    private static void p19Rack() {
        e.part("19 rack");
        YearTags x = room(3, 4, 12, 1);
        for (int wild : WILD) {
            e.due("rack(wild, 0)", UNKNOWN, x.rack(wild, 0));
            e.due("rack(0, wild)", BAD_VALUE, x.rack(0, wild));
            e.due("rack(2, wild)", UNKNOWN, x.rack(2, wild));
        }
        e.due("rack(0, 6)", BAD_VALUE, x.rack(0, 6));
        x.age(0, 99);
        x.claim(x.take(0, 4));
        x.age(2, 7);
        x.take(0, 3);
        x.take(0, 3);
        x.open(0, false);
        int[] want = {3, 4, 0, 2, 1, 106};
        int[] other = {12, 1, 1, 0, 0, 0};
        for (int what = 0; what < want.length; what++) {
            e.due("rack(0, " + what + ")", want[what], x.rack(0, what));
            e.due("rack(1, " + what + ")", other[what], x.rack(1, what));
        }
    }

    private static void p20Hook() {
        e.part("20 hook");
        YearTags x = room(2, 5, 12, 5);
        for (int wild : WILD) {
            e.due("hook(wild, 0)", UNKNOWN, x.hook(wild, 0));
            e.due("hook(0, wild)", BAD_VALUE, x.hook(0, wild));
        }
        e.due("hook(2, 9)", UNKNOWN, x.hook(2, 9));
        e.due("hook(11, 0)", UNKNOWN, x.hook(11, 0));
        e.due("hook(24, 0)", UNKNOWN, x.hook(24, 0));
        e.due("hook(0, 8)", BAD_VALUE, x.hook(0, 8));
        e.due("hook(23, 0)", 0, x.hook(23, 0));
        x.pass(4);
        int tag = x.take(9, 3);
        x.move(tag, 23);
        int[] empty = {1, 0, 0, NONE, NONE, NONE, NONE, 1};
        int[] full = {0, 1, 0, 9, 3, 4, x.tagOf(2300), 0};
        for (int what = 0; what < 8; what++) {
            e.due("hook(0, " + what + ")", empty[what], x.hook(0, what));
            e.due("hook(23, " + what + ")", full[what], x.hook(23, what));
        }
        x.age(0, 99);
        x.claim(x.take(0, 1));
        int[] retired = {99, 0, 1, NONE, NONE, NONE, NONE, 2};
        for (int what = 0; what < 8; what++) {
            e.due("hook(0, " + what + ")", retired[what], x.hook(0, what));
        }
    }

    private static void p21Tag() {
        e.part("21 tag");
        YearTags x = room(3, 5, 3, 5);
        int old = x.take(6, 2);
        int middle = x.move(old, 13);
        int latest = x.move(middle, 2);
        for (int wild : WILD) {
            e.due("tag(wild, 0)", BAD_VALUE, x.tag(wild, 0));
            e.due("tag(old, wild)", BAD_VALUE, x.tag(old, wild));
        }
        e.due("tag(60008, 0)", BAD_VALUE, x.tag(60008, 0));
        e.due("tag(old, 6)", BAD_VALUE, x.tag(old, 6));
        e.due("never given, bad what", BAD_VALUE, x.tag(x.tagOf(1), 6));
        e.due("never given", UNKNOWN, x.tag(x.tagOf(1), 0));
        e.due("wrong check", BAD_VALUE, x.tag(old + 1, 0));
        told(x, old, 2, 2, 0, latest, middle, 6);
        told(x, middle, 2, 1, 0, latest, latest, 6);
        told(x, latest, 2, 0, 0, latest, NONE, 6);
        x.claim(middle);
        told(x, old, NONE, 2, 1, latest, middle, 6);
        int second = x.take(7, 1);
        x.giveOut(7, 0);
        told(x, second, NONE, 0, 2, second, NONE, 7);
        int third = x.take(8, 1);
        x.pass(31);
        told(x, third, NONE, 0, 3, third, NONE, 8);
    }

    private static void told(YearTags x, int tag, int... want) {
        for (int what = 0; what < want.length; what++) {
            e.due("tag(" + tag + ", " + what + ")", want[what], x.tag(tag, what));
        }
    }

    private static void p22TagOf() {
        e.part("22 tagOf");
        YearTags x = new YearTags();
        for (int wild : new int[] {Integer.MIN_VALUE, -1, 6000, Integer.MAX_VALUE}) {
            e.due("tagOf(" + wild + ")", BAD_VALUE, x.tagOf(wild));
        }
        int[][] pairs = {{0, 0}, {1, 19}, {10, 107}, {100, 1001}, {1000, 10003}, {5999, 59990 + (15 + 9 + 63 + 81) % 10}, {2222, 22220}};
        for (int[] pair : pairs) {
            e.due("tagOf(" + pair[0] + ")", pair[1], x.tagOf(pair[0]));
        }
    }

    private static void p23Guest() {
        e.part("23 guest");
        YearTags x = room(6, 5);
        for (int wild : WILD) {
            e.due("guest(wild, 0)", UNKNOWN, x.guest(wild, 0));
            e.due("guest(0, wild)", BAD_VALUE, x.guest(0, wild));
        }
        e.due("guest(20, 9)", UNKNOWN, x.guest(20, 9));
        e.due("guest(0, 3)", BAD_VALUE, x.guest(0, 3));
        int tag = x.take(19, 2);
        x.pass(3);
        x.take(19, 5);
        x.take(18, 5);
        e.due("coats", 2, x.guest(19, 0));
        e.due("due", 12 + 2, x.guest(19, 1));
        e.due("taken in", 2, x.guest(19, 2));
        x.claim(tag);
        e.due("coats", 1, x.guest(19, 0));
        e.due("due", 2, x.guest(19, 1));
        e.due("taken in", 2, x.guest(19, 2));
        e.due("none", 0, x.guest(0, 0));
        e.due("none", 0, x.guest(0, 1));
        e.due("none", 0, x.guest(0, 2));
    }

    private static void p24Next() {
        e.part("24 next");
        YearTags x = room(1, 1, 2, 3);
        for (int wild : WILD) {
            e.due("next(wild)", BAD_VALUE, x.next(wild));
        }
        e.due("next(0)", BAD_VALUE, x.next(0));
        e.due("next(6)", BAD_VALUE, x.next(6));
        e.due("next(1)", 0, x.next(1));
        e.due("next(2)", 12, x.next(2));
        e.due("next(3)", 12, x.next(3));
        e.due("next(4)", NONE, x.next(4));
        x.take(0, 2);
        e.due("next(2)", 13, x.next(2));
        x.open(1, false);
        e.due("next(2)", NONE, x.next(2));
        e.due("it changes nothing", 1, x.count(3));
    }

    private static void p25Due() {
        e.part("25 due");
        YearTags x = room(3, 5);
        int tag = x.take(0, 3);
        e.due("bad", BAD_VALUE, x.due(-1));
        e.due("bad", BAD_VALUE, x.due(60000));
        e.due("bad check", BAD_VALUE, x.due(tag + 1));
        e.due("never given", UNKNOWN, x.due(x.tagOf(1)));
        e.due("at least the rent", 2, x.due(tag));
        x.pass(1);
        e.due("a day", 6, x.due(tag));
        x.set(1, 50);
        e.due("by the rent now", 150, x.due(tag));
        x.set(1, 0);
        e.due("without rent", 0, x.due(tag));
        x.giveOut(0, 0);
        e.due("gone", GONE, x.due(tag));
        int other = x.take(0, 1);
        x.claim(other);
        e.due("returned", RETURNED, x.due(other));
        x.set(1, 50);
        x.set(2, 99);
        int great = x.take(0, 5);
        x.pass(60);
        x.pass(39);
        e.due("the most", 5 * 50 * 99, x.due(great));
    }

    private static void p26Event() {
        e.part("26 event");
        YearTags x = room(12, 5);
        for (int wild : new int[] {Integer.MIN_VALUE, -1}) {
            e.due("event(wild, 0)", BAD_VALUE, x.event(wild, 0));
        }
        for (int wild : new int[] {Integer.MIN_VALUE, -1, 3, Integer.MAX_VALUE}) {
            e.due("event(0, wild)", BAD_VALUE, x.event(0, wild));
        }
        e.due("event(MAX, 0)", NONE, x.event(Integer.MAX_VALUE, 0));
        x.take(0, 1);
        e.due("event(0, 0)", 0, x.event(0, 0));
        e.due("event(1, 0)", NONE, x.event(1, 0));
        for (int i = 1; i < 12; i++) {
            x.pass(1);
            x.take(0, 1);
        }
        for (int back = 0; back < 10; back++) {
            e.due("handle", 100 * (11 - back), x.event(back, 1));
            e.due("day", 11 - back, x.event(back, 2));
        }
        e.due("event(10, 1)", NONE, x.event(10, 1));
        e.due("event(10, 3)", BAD_VALUE, x.event(10, 3));
    }

    private static void p27Count() {
        e.part("27 count");
        YearTags x = room(3, 5, 12, 5);
        for (int wild : new int[] {Integer.MIN_VALUE, -1, 18, Integer.MAX_VALUE}) {
            e.due("count(" + wild + ")", BAD_VALUE, x.count(wild));
        }
        x.age(2, 99);
        int first = x.take(0, 1);
        int second = x.take(1, 2);
        int third = x.take(2, 3);
        x.take(3, 4);
        x.claim(third);
        x.move(x.move(first, 14), 0);
        x.giveOut(1, 0);
        x.set(1, 7);
        x.set(0, 2);
        x.set(2, 9);
        x.pass(5);
        x.take(4, 5);
        x.pass(5);
        x.type('x');
        x.undo();
        int[] want = {5, 2, 15, 3, 1, 7, 5, 1, 1, 0, 2, 2 + 52, 2, 2, 7, 9, 3, 1};
        for (int what = 0; what < want.length; what++) {
            e.due("count(" + what + ")", want[what], x.count(what));
        }
        x.pass(5);
        e.due("auctioned", 2, x.count(9));
        e.due("earned", 54 + 10 + 40, x.count(11));
        e.due("second is gone", GONE, x.due(second));
    }
}
