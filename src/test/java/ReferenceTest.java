import java.util.ArrayList;
import java.util.List;

/**
 * Runs of calls by numbers that always come the same, on YearTags and on ReferenceRoom at once; each
 * answer must be the same, and from time to time all that the rooms tell.
 */
public final class ReferenceTest {
    private static final int[] WILD = {Integer.MIN_VALUE, Integer.MIN_VALUE + 1, -1000, -101, -100, -12, -1, 0, 1, 5, 6, 11, 12, 13,
        19, 20, 59, 60, 61, 99, 100, 5999, 6000, 9999, 10000, 59999, 60000, 60008, 1 << 30, Integer.MAX_VALUE - 1, Integer.MAX_VALUE};
    private static final int SMALL = 0;
    private static final int TEXTS = 1;
    private static final int OLD = 2;
    private static final int LONG_WAYS = 3;
    private static final int PROFILES = 4;

    private static long seed;
    private static int calls;
    private static final Expect e = new Expect();

    public static void main(String[] args) {
        for (int run = 0; run < 160; run++) {
            seed = 1000003L * run + 17;
            e.part("run " + run);
            run(run % PROFILES, run % 20 == 19 ? 3000 : 512);
        }
        movingOnAndOn();
        e.end();
    }

    /** From 0 to bound - 1. */
    private static int pick(int bound) {
        seed = seed * 6364136223846793005L + 1442695040888963407L;
        return (int) ((seed >>> 33) % bound);
    }

    private static int wildOr(int usual) {
        return pick(25) == 0 ? WILD[pick(WILD.length)] : usual;
    }

    private static void same(String call, int want, int got) {
        calls++;
        if (want == got) {
            e.right();
        } else {
            e.due("call " + calls + " " + call, want, got);
        }
    }

    private static void run(int profile, int length) {
        YearTags x = new YearTags();
        ReferenceRoom y = new ReferenceRoom();
        List<Integer> tags = new ArrayList<>();
        tags.add(0);
        calls = 0;
        int first = pick(4);
        for (int i = 0; i < first; i++) {
            addRack(x, y, profile);
        }
        for (int i = 0; i < length; i++) {
            call(x, y, tags, profile);
            if (i % 24 == 0) {
                compareAll(x, y);
            }
        }
        compareAll(x, y);
    }

    private static void addRack(YearTags x, ReferenceRoom y, int profile) {
        int hooks = wildOr(1 + pick(profile == SMALL ? 3 : 12));
        int size = wildOr(1 + pick(5));
        same("addRack(" + hooks + ", " + size + ")", y.addRack(hooks, size), x.addRack(hooks, size));
    }

    private static void call(YearTags x, ReferenceRoom y, List<Integer> tags, int profile) {
        int which = pick(100);
        if (which < 30) {
            take(x, y, tags);
        } else if (which < 62) {
            coats(x, y, tags, profile);
        } else if (which < 78) {
            settings(x, y, profile);
        } else if (which < 88 || profile == TEXTS && which < 95) {
            texts(x, y, tags, profile);
        } else {
            states(x, y);
        }
    }

    private static void take(YearTags x, ReferenceRoom y, List<Integer> tags) {
        int guest = wildOr(pick(4) == 0 ? pick(20) : pick(3));
        int size = wildOr(1 + pick(pick(5) + 1));
        int tag = x.take(guest, size);
        same("take(" + guest + ", " + size + ")", y.take(guest, size), tag);
        if (tag >= 0) {
            tags.add(tag);
        }
    }

    private static int anyTag(List<Integer> tags) {
        int near = Math.min(tags.size(), 12);
        int tag = pick(3) == 0 ? tags.get(pick(tags.size())) : tags.get(tags.size() - 1 - pick(near));
        return wildOr(pick(20) == 0 ? tag + 1 : tag);
    }

    private static void coats(YearTags x, ReferenceRoom y, List<Integer> tags, int profile) {
        int tag = anyTag(tags);
        switch (pick(profile == LONG_WAYS ? 12 : 8)) {
            case 0:
            case 1:
                same("claim(" + tag + ")", y.claim(tag), x.claim(tag));
                break;
            case 2:
                int guest = wildOr(pick(3));
                int place = wildOr(pick(3));
                same("giveOut(" + guest + ", " + place + ")", y.giveOut(guest, place), x.giveOut(guest, place));
                break;
            case 3:
                same("shorten()", y.shorten(), x.shorten());
                break;
            case 4:
                int days = wildOr(1 + pick(pick(3) == 0 ? 60 : 5));
                same("pass(" + days + ")", y.pass(days), x.pass(days));
                break;
            case 5:
            case 6:
                int hook = wildOr(12 * pick(5) + pick(6));
                int moved = x.move(tag, hook);
                same("move(" + tag + ", " + hook + ")", y.move(tag, hook), moved);
                if (moved >= 0) {
                    tags.add(moved);
                }
                break;
            default:
                int from = wildOr(pick(4));
                int to = wildOr(pick(4));
                same("moveAll(" + from + ", " + to + ")", y.moveAll(from, to), x.moveAll(from, to));
        }
    }

    private static void settings(YearTags x, ReferenceRoom y, int profile) {
        switch (pick(4)) {
            case 0:
                addRack(x, y, profile);
                break;
            case 1:
                int rack = wildOr(pick(3));
                boolean open = pick(3) != 0;
                same("open(" + rack + ", " + open + ")", y.open(rack, open), x.open(rack, open));
                break;
            case 2:
                int hook = wildOr(12 * pick(3) + pick(4));
                int year = wildOr(profile == OLD ? 95 + pick(6) : pick(101));
                same("age(" + hook + ", " + year + ")", y.age(hook, year), x.age(hook, year));
                break;
            default:
                int what = wildOr(pick(3));
                int value = wildOr(what == 0 ? pick(4) : what == 1 ? pick(51) : pick(100));
                same("set(" + what + ", " + value + ")", y.set(what, value), x.set(what, value));
        }
    }

    private static void texts(YearTags x, ReferenceRoom y, List<Integer> tags, int profile) {
        if (pick(3) != 0) {
            same("clearText()", y.clearText(), x.clearText());
        }
        int parts = 1 + pick(profile == TEXTS && pick(6) == 0 ? 35 : 3);
        for (int i = 0; i < parts; i++) {
            String part = pick(12) == 0 ? "" + pick(20) : "" + (pick(8) == 0 ? 0 : tags.get(Math.max(0, tags.size() - 1 - pick(8))));
            type(x, y, part + (i + 1 < parts ? "," : ""));
        }
        if (pick(6) == 0) {
            char[] odd = {',', '0', '7', ' ', '/', ':', '-', 0, 255, 0x661, 0xffff};
            type(x, y, "" + odd[pick(odd.length)]);
        }
        same("claimAll()", y.claimAll(), x.claimAll());
    }

    private static void type(YearTags x, ReferenceRoom y, String characters) {
        for (int i = 0; i < characters.length(); i++) {
            same("type(" + (int) characters.charAt(i) + ")", y.type(characters.charAt(i)), x.type(characters.charAt(i)));
        }
    }

    private static void states(YearTags x, ReferenceRoom y) {
        int which = pick(9);
        if (which < 6) {
            same("undo()", y.undo(), x.undo());
        } else if (which < 7) {
            same("keep()", y.keep(), x.keep());
        } else if (which < 8) {
            same("restore()", y.restore(), x.restore());
        } else {
            for (int wild : WILD) {
                wildLooks(x, y, wild);
            }
        }
    }

    private static void wildLooks(YearTags x, ReferenceRoom y, int wild) {
        int other = WILD[pick(WILD.length)];
        same("rack(" + wild + ", " + other + ")", y.rack(wild, other), x.rack(wild, other));
        same("hook(" + wild + ", " + other + ")", y.hook(wild, other), x.hook(wild, other));
        same("tag(" + wild + ", " + other + ")", y.tag(wild, other), x.tag(wild, other));
        same("tagOf(" + wild + ")", y.tagOf(wild), x.tagOf(wild));
        same("guest(" + wild + ", " + other + ")", y.guest(wild, other), x.guest(wild, other));
        same("next(" + wild + ")", y.next(wild), x.next(wild));
        same("due(" + wild + ")", y.due(wild), x.due(wild));
        same("event(" + wild + ", " + other + ")", y.event(wild, other), x.event(wild, other));
        same("count(" + wild + ")", y.count(wild), x.count(wild));
    }

    private static void compareAll(YearTags x, ReferenceRoom y) {
        for (int what = -1; what < 19; what++) {
            same("count(" + what + ")", y.count(what), x.count(what));
        }
        for (int rack = 0; rack < 6; rack++) {
            for (int what = -1; what < 7; what++) {
                same("rack(" + rack + ", " + what + ")", y.rack(rack, what), x.rack(rack, what));
            }
        }
        for (int hook = 0; hook < 61; hook++) {
            for (int what = -1; what < 9; what++) {
                same("hook(" + hook + ", " + what + ")", y.hook(hook, what), x.hook(hook, what));
            }
        }
        for (int guest = 0; guest < 21; guest++) {
            for (int what = -1; what < 4; what++) {
                same("guest(" + guest + ", " + what + ")", y.guest(guest, what), x.guest(guest, what));
            }
        }
        for (int back = 0; back < 12; back++) {
            for (int what = -1; what < 4; what++) {
                same("event(" + back + ", " + what + ")", y.event(back, what), x.event(back, what));
            }
        }
        for (int size = 0; size < 7; size++) {
            same("next(" + size + ")", y.next(size), x.next(size));
        }
        compareTags(x, y);
    }

    private static void compareTags(YearTags x, ReferenceRoom y) {
        for (int handle = 0; handle < 6000; handle += handle % 100 == 8 ? 82 : 1) {
            int tag = y.tagOf(handle);
            same("tagOf(" + handle + ")", tag, x.tagOf(handle));
            same("due(" + tag + ")", y.due(tag), x.due(tag));
            for (int what = -1; what < 7; what++) {
                same("tag(" + tag + ", " + what + ")", y.tag(tag, what), x.tag(tag, what));
            }
        }
    }

    /** Twelve coats that are moved around five racks until every hook is retired: all 6000 handles. */
    private static void movingOnAndOn() {
        e.part("moving on and on");
        calls = 0;
        YearTags x = new YearTags();
        ReferenceRoom y = new ReferenceRoom();
        for (int i = 0; i < 5; i++) {
            same("addRack(12, 5)", y.addRack(12, 5), x.addRack(12, 5));
        }
        for (int i = 0; i < 12; i++) {
            same("take(" + i + ", 5)", y.take(i, 5), x.take(i, 5));
        }
        for (int i = 0; i < 499; i++) {
            same("moveAll", y.moveAll(i % 5, (i + 1) % 5), x.moveAll(i % 5, (i + 1) % 5));
            if (i % 50 == 0) {
                same("count(12)", y.count(12), x.count(12));
                int changed = x.shorten();
                same("shorten()", y.shorten(), changed);
                if (changed > 0) {
                    same("undo()", y.undo(), x.undo());
                }
            }
        }
        e.due("handles", 6000, x.count(5));
        e.due("greatest way", 499, x.count(12));
        same("moveAll", y.moveAll(4, 0), x.moveAll(4, 0));
        compareAll(x, y);
        e.due("keep()", 12, x.keep());
        y.keep();
        same("claim(0)", y.claim(0), x.claim(0));
        same("pass(31)", y.pass(31), x.pass(31));
        e.due("retired hooks", 60, x.count(4));
        e.due("take(0, 1)", -3, x.take(0, 1));
        e.due("shorten()", 498 * 12, x.shorten());
        y.shorten();
        compareAll(x, y);
        same("restore()", y.restore(), x.restore());
        compareAll(x, y);
        same("undo()", y.undo(), x.undo());
        same("undo()", y.undo(), x.undo());
        compareAll(x, y);
    }
}
