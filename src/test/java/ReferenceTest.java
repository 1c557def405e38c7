import java.util.ArrayList;
import java.util.List;

/**
 * Runs of calls by numbers that always come the same, on YearTags and on ReferenceRoom at once; each
 * answer must be the same, and from time to time all that the rooms tell.
 */
public final class ReferenceTest {
    private static final int[] WILD = {Integer.MIN_VALUE, Integer.MIN_VALUE + 1, -1000, -101, -100, -12, -1, 0, 1, 5, 6, 11, 12, 13,
        19, 20, 59, 60, 61, 99, 100, 5999, 6000, 9999, 10000, 59999, 60000, 60008, 1 << 30, Integer.MAX_VALUE - 1, Integer.MAX_VALUE};
    private static final int SMALL = 0;
    private static final int TEXTS = 1;
    private static final int OLD = 2;
    private static final int LONG_WAYS = 3;
    private static final int PROFILES = 4;
    /** After this many calls of a run, all that the rooms tell is compared; the last of them ends the run. */
    private static final int[] LOOKS = {30, 90, 180, 300, 440, 490};

    private static final Expect e = new Expect();
    private static final List<Call> QUESTIONS = questions();

    private static long seed;
    private static int profile;
    private static YearTags x;
    private static ReferenceRoom y;
    private static List<Call> made;
    private static List<Integer> tags;

    public static void main(String[] args) {
        for (int run = 0; run < 200; run++) {
            seed = 1000003L * run + 17;
            profile = run % PROFILES;
            e.part("run " + run);
            run();
        }
        movingOnAndOn();
        movingToTheLastYear();
        e.end();
    }

    private static void newRooms() {
        x = new YearTags();
        y = new ReferenceRoom();
        made = new ArrayList<>();
        tags = new ArrayList<>();
        tags.add(0);
    }

    /** From 0 to bound - 1. */
    private static int pick(int bound) {
        seed = seed * 6364136223846793005L + 1442695040888963407L;
        return (int) ((seed >>> 33) % bound);
    }

    private static int wildOr(int usual) {
        return pick(25) == 0 ? WILD[pick(WILD.length)] : usual;
    }

    /** Makes the call on both, unless the object has served for as many calls as it must. */
    private static int same(String name, int... arguments) {
        Call call = Call.of(name, arguments);
        if (made.size() >= Sentences.MOST_CALLS) {
            return YearTags.NONE;
        }
        made.add(call);
        return compare("call " + made.size(), call, x);
    }

    private static int compare(String where, Call call, YearTags on) {
        int want = call.on(y);
        int got = call.on(on);
        if (want == got) {
            e.right();
        } else {
            e.due(where + " " + call, want, got);
        }
        return got;
    }

    private static void run() {
        newRooms();
        int first = pick(4);
        for (int i = 0; i < first; i++) {
            addRack();
        }
        for (int look : LOOKS) {
            while (made.size() < look) {
                call();
            }
            compareAll(look % 90 == 0 ? 1 : 4);
        }
    }

    /** Asks one of so many questions, on new objects after the same calls, so that none serves for more calls than it must. */
    private static void compareAll(int step) {
        YearTags copy = null;
        int left = 0;
        for (int i = pick(step); i < QUESTIONS.size() && made.size() < Sentences.MOST_CALLS; i += step) {
            if (left == 0) {
                copy = new YearTags();
                for (Call call : made) {
                    call.on(copy);
                }
                left = Sentences.MOST_CALLS - made.size();
            }
            compare("after " + made.size() + " calls", QUESTIONS.get(i), copy);
            left--;
        }
    }

    private static void addRack() {
        same("addRack", wildOr(1 + pick(profile == SMALL ? 3 : 12)), wildOr(1 + pick(5)));
    }

    private static void call() {
        int which = pick(100);
        if (which < 30) {
            take();
        } else if (which < 62) {
            coats();
        } else if (which < 78) {
            settings();
        } else if (which < 82 || profile == TEXTS && which < 90) {
            texts();
        } else {
            states();
        }
    }

    private static void take() {
        int guest = wildOr(pick(4) == 0 ? pick(20) : pick(3));
        int tag = same("take", guest, wildOr(1 + pick(pick(5) + 1)));
        if (tag >= 0) {
            tags.add(tag);
        }
    }

    private static int anyTag() {
        int near = Math.min(tags.size(), 12);
        int tag = pick(3) == 0 ? tags.get(pick(tags.size())) : tags.get(tags.size() - 1 - pick(near));
        return wildOr(pick(20) == 0 ? tag + 1 : tag);
    }

    private static void coats() {
        switch (pick(profile == LONG_WAYS ? 12 : 8)) {
            case 0:
            case 1:
                same("claim", anyTag());
                break;
            case 2:
                same("giveOut", wildOr(pick(3)), wildOr(pick(3)));
                break;
            case 3:
                same("shorten");
                break;
            case 4:
                same("pass", wildOr(1 + pick(pick(3) == 0 ? 60 : 5)));
                break;
            case 5:
            case 6:
                int moved = same("move", anyTag(), wildOr(12 * pick(5) + pick(6)));
                if (moved >= 0) {
                    tags.add(moved);
                }
                break;
            default:
                same("moveAll", wildOr(pick(4)), wildOr(pick(4)));
        }
    }

    private static void settings() {
        switch (pick(4)) {
            case 0:
                addRack();
                break;
            case 1:
                same("open", wildOr(pick(3)), pick(3) != 0 ? 1 : 0);
                break;
            case 2:
                same("age", wildOr(12 * pick(3) + pick(4)), wildOr(profile == OLD ? 95 + pick(6) : pick(101)));
                break;
            default:
                int what = wildOr(pick(3));
                same("set", what, wildOr(what == 0 ? pick(4) : what == 1 ? pick(51) : pick(100)));
        }
    }

    private static void texts() {
        if (pick(3) != 0) {
            same("clearText");
        }
        int parts = 1 + pick(profile == TEXTS && pick(6) == 0 ? 35 : 3);
        for (int i = 0; i < parts; i++) {
            int tag = pick(12) == 0 ? pick(20) : pick(8) == 0 ? 0 : tags.get(Math.max(0, tags.size() - 1 - pick(8)));
            type(tag + (i + 1 < parts ? "," : ""));
        }
        if (pick(6) == 0) {
            char[] odd = {',', '0', '7', ' ', '/', ':', '-', 0, 255, 0x661, 0xffff};
            type("" + odd[pick(odd.length)]);
        }
        same("claimAll");
    }

    private static void type(String characters) {
        for (int i = 0; i < characters.length(); i++) {
            same("type", characters.charAt(i));
        }
    }

    private static void states() {
        int which = pick(9);
        if (which < 6) {
            same("undo");
        } else if (which < 7) {
            same("keep");
        } else if (which < 8) {
            same("restore");
        } else {
            String[] names = {"rack", "hook", "tag", "guest", "event"};
            same(names[pick(names.length)], WILD[pick(WILD.length)], WILD[pick(WILD.length)]);
            String[] others = {"tagOf", "next", "due", "count"};
            same(others[pick(others.length)], WILD[pick(WILD.length)]);
        }
    }

    private static List<Call> questions() {
        List<Call> all = new ArrayList<>();
        for (int what = -1; what < 19; what++) {
            all.add(Call.of("count", what));
        }
        for (int size = 0; size < 7; size++) {
            all.add(Call.of("next", size));
        }
        ask(all, "rack", 6, 7);
        ask(all, "hook", 61, 9);
        ask(all, "guest", 21, 4);
        ask(all, "event", 12, 4);
        for (int wild : WILD) {
            all.addAll(List.of(Call.of("tagOf", wild), Call.of("next", wild), Call.of("due", wild), Call.of("count", wild)));
        }
        for (int handle = 0; handle < 6000; handle += handle % 100 == 8 ? 82 : 1) {
            int tag = Call.tagOf(handle);
            all.addAll(List.of(Call.of("tagOf", handle), Call.of("due", tag)));
            for (int what = -1; what < 7; what++) {
                all.add(Call.of("tag", tag, what));
            }
        }
        return all;
    }

    private static void ask(List<Call> all, String name, int bound, int whats) {
        for (int number = -1; number < bound; number++) {
            for (int what = -1; what < whats; what++) {
                all.add(Call.of(name, number, what));
            }
        }
    }

    private static void fiveFullRacks() {
        newRooms();
        for (int i = 0; i < 5; i++) {
            same("addRack", 12, 5);
        }
    }

    private static void moveOn(int times) {
        for (int i = 0; i < times; i++) {
            same("moveAll", i % 5, (i + 1) % 5);
        }
    }

    private static void takeTwelve() {
        for (int i = 0; i < 12; i++) {
            same("take", i, 5);
        }
    }

    /** Twelve coats that are moved around five racks as often as 512 calls let them. */
    private static void movingOnAndOn() {
        e.part("moving on and on");
        fiveFullRacks();
        takeTwelve();
        moveOn(494);
        compareAll(211);
        e.due("greatest way", 494, same("count", 12));
        fiveFullRacks();
        takeTwelve();
        moveOn(470);
        same("shorten");
        same("undo");
        same("keep");
        same("claim", 0);
        same("shorten");
        same("pass", 31);
        compareAll(37);
        same("restore");
        compareAll(37);
        same("undo");
        same("undo");
        compareAll(37);
    }

    /** Hooks of great years, until each of them is retired. */
    private static void movingToTheLastYear() {
        e.part("moving to the last year");
        fiveFullRacks();
        for (int hook = 0; hook < 60; hook++) {
            same("age", hook, 95 + hook % 4);
        }
        takeTwelve();
        moveOn(40);
        compareAll(7);
        for (int hook = 0; hook < 60; hook++) {
            same("take", hook % 20, 5);
            same("giveOut", hook % 20, 0);
        }
        for (int i = 0; i < 60; i++) {
            same("take", 19, 1);
        }
        same("pass", 60);
        compareAll(7);
        for (int i = 0; i < 60; i++) {
            same("take", 18, 1);
            same("giveOut", 18, 0);
        }
        compareAll(7);
    }
}
