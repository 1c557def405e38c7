import java.util.Arrays;

/** A cloakroom whose tags bear the year of their hook. */
public final class YearTags {

    public static final int UNKNOWN = -1;
    public static final int BAD_VALUE = -2;
    public static final int FULL = -3;
    public static final int NOT_POSSIBLE = -4;
    public static final int NONE = -5;
    public static final int RETURNED = -6;
    public static final int GONE = -7;

    private static final int MOST_RACKS = 5;
    private static final int RACK_HOOKS = 12;
    private static final int HOOKS = 60;
    private static final int GREATEST_SIZE = 5;
    private static final int YEARS = 100;
    private static final int HANDLES = 6000;
    private static final int TAGS = 60000;
    private static final int GUESTS = 20;
    private static final int LAST_DAY = 9999;
    private static final int MOST_DAYS = 60;
    private static final int EXTRA_WITHOUT_TAG = 50;
    private static final int AUCTIONED_FOR = 10;
    private static final int FIRST_FAULT = -100;

    /** What set() calls 0, 1 and 2. */
    private static final int RULE = 0;
    private static final int RENT = 1;
    private static final int LIMIT = 2;
    private static final int SETTINGS = 3;

    private static final int RULE_LEFT_LATEST = 1;
    private static final int RULE_LEFT_LONGEST_AGO = 2;
    private static final int RULE_LOWEST_YEAR = 3;

    /** The kinds of events. */
    private static final int TAKEN_IN = 0;
    private static final int MOVED = 1;
    private static final int GIVEN_BY_TAG = 2;
    private static final int GIVEN_WITHOUT_TAG = 3;
    private static final int AUCTIONED = 4;
    private static final int KINDS = 5;

    /** The end of a coat that left by an event is the kind of the event less this. */
    private static final int KIND_ABOVE_END = 1;
    private static final int END_HERE = 0;
    private static final int END_RETURNED = 1;

    private final State now = new State();
    private final State snapshot = new State();
    private boolean hasSnapshot = false;
    private final History history = new History();
    private final TagText text = new TagText();
    private final int[] claimedPlaces = new int[TagText.MOST_TAGS];

    public YearTags() {
    }

    // ---- racks and settings

    public int addRack(int hooks, int size) {
        if (hooks < 1 || hooks > RACK_HOOKS || !isSize(size)) {
            return BAD_VALUE;
        }
        if (now.rackCount >= MOST_RACKS) {
            return FULL;
        }
        history.record(now);
        return now.setUpRack(hooks, size);
    }

    public int open(int rack, boolean open) {
        Rack which = now.rackAt(rack);
        if (which == null) {
            return UNKNOWN;
        }
        if (which.isOpen == open) {
            return NONE;
        }
        history.record(now);
        which.isOpen = open;
        return which.total(Hook.HOLDS_COAT);
    }

    public int age(int hook, int year) {
        Hook which = now.hookAt(hook);
        if (which == null) {
            return UNKNOWN;
        }
        if (year <= which.year || year >= YEARS) {
            return BAD_VALUE;
        }
        if (!which.canHold()) {
            return NOT_POSSIBLE;
        }
        history.record(now);
        int before = which.year;
        which.year = year;
        return before;
    }

    public int set(int what, int value) {
        if (!isSetting(what, value)) {
            return BAD_VALUE;
        }
        int before = now.settings[what];
        if (before == value) {
            return NONE;
        }
        history.record(now);
        now.settings[what] = value;
        return before;
    }

    // ---- coats

    public int take(int guest, int size) {
        if (!isGuest(guest)) {
            return UNKNOWN;
        }
        if (!isSize(size)) {
            return BAD_VALUE;
        }
        Hook hook = now.hookByRule(size);
        if (hook == null) {
            return FULL;
        }
        history.record(now);
        return now.takeIn(guest, size, hook);
    }

    public int claim(int tag) {
        int place = now.placeOf(tag);
        Hook hook = now.hookAt(place);
        if (hook == null) {
            return place;
        }
        history.record(now);
        return now.handOver(hook, GIVEN_BY_TAG, now.dueFor(hook));
    }

    public int giveOut(int guest, int place) {
        if (!isGuest(guest) || place < 0) {
            return UNKNOWN;
        }
        Hook hook = now.hookOfGuest(guest, place);
        if (hook == null) {
            return UNKNOWN;
        }
        history.record(now);
        return now.handOver(hook, GIVEN_WITHOUT_TAG, now.dueFor(hook) + EXTRA_WITHOUT_TAG);
    }

    public int move(int tag, int hook) {
        int place = now.placeOf(tag);
        Hook from = now.hookAt(place);
        if (from == null) {
            return place;
        }
        Hook to = now.hookAt(hook);
        if (to == null) {
            return UNKNOWN;
        }
        if (!now.isFree(to, from.coatSize)) {
            return NOT_POSSIBLE;
        }
        history.record(now);
        return now.carry(from, to);
    }

    public int moveAll(int from, int to) {
        Rack source = now.rackAt(from);
        Rack target = now.rackAt(to);
        if (source == null || target == null) {
            return UNKNOWN;
        }
        if (from == to) {
            return BAD_VALUE;
        }
        if (!target.hasRoomForAllOf(source)) {
            return NOT_POSSIBLE;
        }
        if (source.total(Hook.HOLDS_COAT) == 0) {
            return NONE;
        }
        history.record(now);
        return now.carryAll(source, target);
    }

    public int shorten() {
        if (now.handles.greatestWay() < 2) {
            return NONE;
        }
        history.record(now);
        return now.handles.shortenWays();
    }

    public int pass(int days) {
        if (days < 1 || days > MOST_DAYS) {
            return BAD_VALUE;
        }
        if (now.day + days > LAST_DAY) {
            return NOT_POSSIBLE;
        }
        history.record(now);
        int auctioned = 0;
        for (int passed = 0; passed < days; passed++) {
            auctioned += now.passOneDay();
        }
        return auctioned;
    }

    // ---- texts

    public int type(char character) {
        return text.append(character) ? text.length : FULL;
    }

    public int clearText() {
        int before = text.length;
        text.length = 0;
        return before;
    }

    public int claimAll() {
        int fault = text.readTags();
        if (fault != TagText.NO_FAULT) {
            return FIRST_FAULT - fault;
        }
        int error = findClaimedPlaces();
        if (error < 0) {
            return error;
        }
        history.record(now);
        int sum = 0;
        for (int i = 0; i < text.tagCount && i < claimedPlaces.length; i++) {
            Hook hook = now.hookAt(claimedPlaces[i]);
            if (hook != null) {
                sum += now.handOver(hook, GIVEN_BY_TAG, now.dueFor(hook));
            }
        }
        return sum;
    }

    // ---- history

    public int undo() {
        return history.takeBack(now) ? history.size : NONE;
    }

    public int keep() {
        snapshot.copyFrom(now);
        hasSnapshot = true;
        return now.total(Hook.HOLDS_COAT);
    }

    public int restore() {
        if (!hasSnapshot) {
            return NONE;
        }
        history.record(now);
        now.copyFrom(snapshot);
        return now.total(Hook.HOLDS_COAT);
    }

    // ---- what is told

    public int rack(int rack, int what) {
        Rack which = now.rackAt(rack);
        if (which == null) {
            return UNKNOWN;
        }
        switch (what) {
            case 0: return which.hookCount;
            case 1: return which.size;
            case 2: return which.isOpen ? 1 : 0;
            case 3: return which.total(Hook.HOLDS_COAT);
            case 4: return which.total(Hook.IS_RETIRED);
            case 5: return which.total(Hook.YEAR);
            default: return BAD_VALUE;
        }
    }

    public int hook(int hook, int what) {
        Hook which = now.hookAt(hook);
        if (which == null) {
            return UNKNOWN;
        }
        switch (what) {
            case 0: return which.tell(Hook.YEAR);
            case 1: return which.tell(Hook.HOLDS_COAT);
            case 2: return which.tell(Hook.IS_RETIRED);
            case 3: return which.holdsCoat() ? now.handles.ownerOf(which.coat) : NONE;
            case 4: return which.holdsCoat() ? which.coatSize : NONE;
            case 5: return which.holdsCoat() ? which.coatDay : NONE;
            case 6: return which.holdsCoat() ? tagWithCheck(which.handle()) : NONE;
            case 7: return which.timesLeft;
            default: return BAD_VALUE;
        }
    }

    public int tag(int tag, int what) {
        if (!isRightTag(tag) || what < 0 || what > 5) {
            return BAD_VALUE;
        }
        Handles handles = now.handles;
        int entry = handles.find(tag / 10);
        if (entry < 0) {
            return UNKNOWN;
        }
        int last = handles.lastFrom(entry);
        int follower = handles.followerOf(entry);
        switch (what) {
            case 0: return handles.endOf(last) == END_HERE ? handles.handleOf(last) / YEARS : NONE;
            case 1: return handles.wayFrom(entry);
            case 2: return handles.endOf(last);
            case 3: return tagWithCheck(handles.handleOf(last));
            case 4: return follower < 0 ? NONE : tagWithCheck(handles.handleOf(follower));
            default: return handles.ownerOf(last);
        }
    }

    public int tagOf(int handle) {
        return handle < 0 || handle >= HANDLES ? BAD_VALUE : tagWithCheck(handle);
    }

    public int guest(int guest, int what) {
        if (!isGuest(guest)) {
            return UNKNOWN;
        }
        switch (what) {
            case 0: return now.coatsOfGuest(guest);
            case 1: return now.dueForGuest(guest);
            case 2: return now.takenFor[guest];
            default: return BAD_VALUE;
        }
    }

    public int next(int size) {
        if (!isSize(size)) {
            return BAD_VALUE;
        }
        Hook hook = now.hookByRule(size);
        return hook == null ? NONE : hook.number;
    }

    public int due(int tag) {
        int place = now.placeOf(tag);
        Hook hook = now.hookAt(place);
        return hook == null ? place : now.dueFor(hook);
    }

    public int event(int back, int what) {
        if (back < 0 || what < 0 || what > 2) {
            return BAD_VALUE;
        }
        return now.log.look(back, what);
    }

    public int count(int what) {
        switch (what) {
            case 0: return now.day;
            case 1: return now.rackCount;
            case 2: return now.hooksInAll();
            case 3: return now.total(Hook.HOLDS_COAT);
            case 4: return now.total(Hook.IS_RETIRED);
            case 5: return now.handles.given;
            case 6: return now.log.timesOf(TAKEN_IN);
            case 7: return now.log.timesOf(GIVEN_BY_TAG);
            case 8: return now.log.timesOf(GIVEN_WITHOUT_TAG);
            case 9: return now.log.timesOf(AUCTIONED);
            case 10: return now.log.timesOf(MOVED);
            case 11: return now.earned;
            case 12: return now.handles.greatestWay();
            case 13: return now.settings[RULE];
            case 14: return now.settings[RENT];
            case 15: return now.settings[LIMIT];
            case 16: return history.size;
            case 17: return text.length;
            default: return BAD_VALUE;
        }
    }

    private static boolean isSize(int size) {
        return size >= 1 && size <= GREATEST_SIZE;
    }

    private static boolean isGuest(int guest) {
        return guest >= 0 && guest < GUESTS;
    }

    private static boolean isSetting(int what, int value) {
        switch (what) {
            case RULE: return value >= 0 && value <= RULE_LOWEST_YEAR;
            case RENT: return value >= 0 && value <= 50;
            case LIMIT: return value >= 1 && value <= 99;
            default: return false;
        }
    }

    private static boolean isRightTag(int tag) {
        return tag >= 0 && tag < TAGS && tag == tagWithCheck(tag / 10);
    }

    private static int tagWithCheck(int handle) {
        int a = handle / 1000;
        int b = handle / 100 % 10;
        int c = handle / 10 % 10;
        int d = handle % 10;
        return 10 * handle + (3 * a + b + 7 * c + 9 * d) % 10;
    }

    /**
     * Finds where the coats of the text's tags are, ahead of any change, so that a tag with an error
     * leaves nothing to be taken back. Answers 0 or the error of the first tag that has one.
     */
    private int findClaimedPlaces() {
        for (int i = 0; i < text.tagCount && i < claimedPlaces.length; i++) {
            int place = now.placeOf(text.tags[i]);
            if (place < 0) {
                return place;
            }
            if (isClaimedBefore(i, place)) {
                return RETURNED;
            }
            claimedPlaces[i] = place;
        }
        return 0;
    }

    private boolean isClaimedBefore(int end, int place) {
        for (int i = 0; i < end && i < claimedPlaces.length; i++) {
            if (claimedPlaces[i] == place) {
                return true;
            }
        }
        return false;
    }

    /** A hook, and the coat on it if there is one. */
    private static final class Hook {
        static final int NO_COAT = -1;

        /** What is told of a hook, and summed for racks. */
        static final int YEAR = 0;
        static final int HOLDS_COAT = 1;
        static final int IS_RETIRED = 2;
        static final int CAN_HOLD = 3;

        final int number;
        int year = 0;
        boolean isRetired = false;
        int timesLeft = 0;
        /** Which of all departures was the latest from here, from 1; 0 as long as no coat has left. */
        int leftAt = 0;
        /** The entry among the handles, or NO_COAT. */
        int coat = NO_COAT;
        int coatSize = 0;
        int coatDay = 0;

        Hook(int number) {
            this.number = number;
        }

        boolean holdsCoat() {
            return coat != NO_COAT;
        }

        boolean canHold() {
            return coat == NO_COAT && !isRetired;
        }

        int tell(int what) {
            switch (what) {
                case YEAR: return year;
                case HOLDS_COAT: return holdsCoat() ? 1 : 0;
                case IS_RETIRED: return isRetired ? 1 : 0;
                case CAN_HOLD: return canHold() ? 1 : 0;
                default: return 0;
            }
        }

        int handle() {
            return YEARS * number + year;
        }

        void hang(int entry, int size, int day) {
            coat = entry;
            coatSize = size;
            coatDay = day;
        }

        void release(int departure) {
            coat = NO_COAT;
            timesLeft++;
            leftAt = departure;
            if (year == YEARS - 1) {
                isRetired = true;
            } else {
                year++;
            }
        }

        void copyFrom(Hook other) {
            year = other.year;
            isRetired = other.isRetired;
            timesLeft = other.timesLeft;
            leftAt = other.leftAt;
            coat = other.coat;
            coatSize = other.coatSize;
            coatDay = other.coatDay;
        }
    }

    /** A rack; the hooks beyond its hookCount are not there. */
    private static final class Rack {
        final Hook[] hooks = new Hook[RACK_HOOKS];
        int hookCount = 0;
        int size = 0;
        boolean isOpen = false;

        Rack(int number) {
            for (int i = 0; i < RACK_HOOKS; i++) {
                hooks[i] = new Hook(RACK_HOOKS * number + i);
            }
        }

        Hook hookAt(int index) {
            return index >= 0 && index < hookCount && index < RACK_HOOKS ? hooks[index] : null;
        }

        boolean admits(int coatSize) {
            return isOpen && coatSize <= size;
        }

        int total(int what) {
            int sum = 0;
            for (int i = 0; i < hookCount; i++) {
                Hook hook = hookAt(i);
                sum += hook == null ? 0 : hook.tell(what);
            }
            return sum;
        }

        /** All hooks of a rack admit the same sizes, so it is enough to count them. */
        boolean hasRoomForAllOf(Rack other) {
            for (int i = 0; i < other.hookCount; i++) {
                Hook hook = other.hookAt(i);
                if (hook != null && hook.holdsCoat() && !admits(hook.coatSize)) {
                    return false;
                }
            }
            return other.total(Hook.HOLDS_COAT) <= total(Hook.CAN_HOLD);
        }

        Hook lowestHookThatCanHold() {
            for (int i = 0; i < hookCount; i++) {
                Hook hook = hookAt(i);
                if (hook != null && hook.canHold()) {
                    return hook;
                }
            }
            return null;
        }

        void copyFrom(Rack other) {
            hookCount = other.hookCount;
            size = other.size;
            isOpen = other.isOpen;
            for (int i = 0; i < RACK_HOOKS; i++) {
                hooks[i].copyFrom(other.hooks[i]);
            }
        }
    }

    /**
     * The handles that were given, each an entry, in the order in which they were given: so a handle
     * is followed by a later entry only.
     */
    private static final class Handles {
        static final int NO_ENTRY = -1;
        static final int FIRST_ROOM = 16;

        int given = 0;
        private int[] handle = new int[FIRST_ROOM];
        private int[] follower = new int[FIRST_ROOM];
        private int[] owner = new int[FIRST_ROOM];
        private int[] end = new int[FIRST_ROOM];
        /** No part of the state: the ways as greatestWay() counts them. */
        private int[] way = new int[FIRST_ROOM];

        boolean isEntry(int entry) {
            return entry >= 0 && entry < given;
        }

        int find(int wanted) {
            for (int entry = 0; entry < given; entry++) {
                if (handle[entry] == wanted) {
                    return entry;
                }
            }
            return NO_ENTRY;
        }

        int handleOf(int entry) {
            return isEntry(entry) ? handle[entry] : 0;
        }

        int followerOf(int entry) {
            return isEntry(entry) ? follower[entry] : NO_ENTRY;
        }

        int ownerOf(int entry) {
            return isEntry(entry) ? owner[entry] : NO_ENTRY;
        }

        int endOf(int entry) {
            return isEntry(entry) ? end[entry] : END_HERE;
        }

        int lastFrom(int entry) {
            int last = entry;
            for (int steps = 0; steps < given && followerOf(last) != NO_ENTRY; steps++) {
                last = followerOf(last);
            }
            return last;
        }

        int wayFrom(int entry) {
            int steps = 0;
            for (int at = entry; steps < given && followerOf(at) != NO_ENTRY; steps++) {
                at = followerOf(at);
            }
            return steps;
        }

        int greatestWay() {
            int greatest = 0;
            for (int entry = given - 1; entry >= 0; entry--) {
                int next = follower[entry];
                way[entry] = isEntry(next) ? way[next] + 1 : 0;
                greatest = Math.max(greatest, way[entry]);
            }
            return greatest;
        }

        /** From the latest entry down, so that what follows an entry is shortened ahead of it. */
        int shortenWays() {
            int changed = 0;
            for (int entry = given - 1; entry >= 0; entry--) {
                int beyond = followerOf(follower[entry]);
                if (beyond != NO_ENTRY) {
                    follower[entry] = beyond;
                    changed++;
                }
            }
            return changed;
        }

        int give(int newHandle, int guest) {
            int entry = given;
            makeRoom(entry + 1);
            handle[entry] = newHandle;
            follower[entry] = NO_ENTRY;
            owner[entry] = guest;
            end[entry] = END_HERE;
            given = entry + 1;
            return entry;
        }

        void follow(int entry, int by) {
            if (isEntry(entry) && isEntry(by)) {
                follower[entry] = by;
            }
        }

        void finish(int entry, int how) {
            if (isEntry(entry)) {
                end[entry] = how;
            }
        }

        /** The rows start small, since most rooms give few of the 6000 handles. */
        private void makeRoom(int wanted) {
            if (wanted <= handle.length) {
                return;
            }
            int room = Math.max(wanted, Math.min(2 * handle.length, HANDLES));
            handle = Arrays.copyOf(handle, room);
            follower = Arrays.copyOf(follower, room);
            owner = Arrays.copyOf(owner, room);
            end = Arrays.copyOf(end, room);
            way = Arrays.copyOf(way, room);
        }

        void copyFrom(Handles other) {
            makeRoom(other.given);
            given = other.given;
            System.arraycopy(other.handle, 0, handle, 0, given);
            System.arraycopy(other.follower, 0, follower, 0, given);
            System.arraycopy(other.owner, 0, owner, 0, given);
            System.arraycopy(other.end, 0, end, 0, given);
        }
    }

    /** The latest events, and how often each kind came so far. */
    private static final class Log {
        static final int KNOWN = 10;

        private int total = 0;
        private final int[] kinds = new int[KNOWN];
        private final int[] handles = new int[KNOWN];
        private final int[] days = new int[KNOWN];
        private final int[] times = new int[KINDS];

        void add(int kind, int handle, int day) {
            int slot = Math.floorMod(total, KNOWN);
            kinds[slot] = kind;
            handles[slot] = handle;
            days[slot] = day;
            total++;
            if (kind >= 0 && kind < KINDS) {
                times[kind]++;
            }
        }

        int timesOf(int kind) {
            return kind >= 0 && kind < KINDS ? times[kind] : 0;
        }

        int look(int back, int what) {
            if (back < 0 || back >= KNOWN || back >= total) {
                return NONE;
            }
            int slot = Math.floorMod(total - 1 - back, KNOWN);
            switch (what) {
                case 0: return kinds[slot];
                case 1: return handles[slot];
                default: return days[slot];
            }
        }

        void copyFrom(Log other) {
            total = other.total;
            System.arraycopy(other.kinds, 0, kinds, 0, KNOWN);
            System.arraycopy(other.handles, 0, handles, 0, KNOWN);
            System.arraycopy(other.days, 0, days, 0, KNOWN);
            System.arraycopy(other.times, 0, times, 0, KINDS);
        }
    }

    /** All that undo() and restore() bring back. */
    private static final class State {
        final Rack[] racks = new Rack[MOST_RACKS];
        int rackCount = 0;
        final Handles handles = new Handles();
        final Log log = new Log();
        final int[] settings = new int[SETTINGS];
        final int[] takenFor = new int[GUESTS];
        int day = 0;
        int earned = 0;
        int departures = 0;

        State() {
            for (int i = 0; i < MOST_RACKS; i++) {
                racks[i] = new Rack(i);
            }
            settings[RENT] = 2;
            settings[LIMIT] = 30;
        }

        Rack rackAt(int number) {
            return number >= 0 && number < rackCount && number < MOST_RACKS ? racks[number] : null;
        }

        Hook hookAt(int number) {
            Rack rack = number < 0 ? null : rackAt(number / RACK_HOOKS);
            return rack == null ? null : rack.hookAt(number % RACK_HOOKS);
        }

        /** The hook at this number if it holds a coat, otherwise null. */
        Hook coatAt(int number) {
            Hook hook = hookAt(number);
            return hook != null && hook.holdsCoat() ? hook : null;
        }

        int setUpRack(int hooks, int size) {
            int number = rackCount;
            rackCount = number + 1;
            Rack rack = rackAt(number);
            if (rack != null) {
                rack.hookCount = hooks;
                rack.size = size;
                rack.isOpen = true;
            }
            return number;
        }

        boolean isFree(Hook hook, int size) {
            Rack rack = rackAt(hook.number / RACK_HOOKS);
            return rack != null && rack.admits(size) && hook.canHold();
        }

        Hook hookByRule(int size) {
            Hook best = null;
            for (int number = 0; number < HOOKS; number++) {
                Hook hook = hookAt(number);
                if (hook != null && isFree(hook, size) && (best == null || goesAhead(hook, best))) {
                    best = hook;
                }
            }
            return best;
        }

        boolean goesAhead(Hook hook, Hook ofLowerNumber) {
            switch (settings[RULE]) {
                case RULE_LEFT_LATEST: return hook.leftAt > ofLowerNumber.leftAt;
                case RULE_LEFT_LONGEST_AGO: return hook.leftAt < ofLowerNumber.leftAt;
                case RULE_LOWEST_YEAR: return hook.year < ofLowerNumber.year;
                default: return false;
            }
        }

        /** The number of the hook on which the coat of this tag is, or the error of the tag. */
        int placeOf(int tag) {
            if (!isRightTag(tag)) {
                return BAD_VALUE;
            }
            int entry = handles.find(tag / 10);
            if (entry < 0) {
                return UNKNOWN;
            }
            int last = handles.lastFrom(entry);
            switch (handles.endOf(last)) {
                case END_HERE: return handles.handleOf(last) / YEARS;
                case END_RETURNED: return RETURNED;
                default: return GONE;
            }
        }

        int takeIn(int guest, int size, Hook hook) {
            hook.hang(handles.give(hook.handle(), guest), size, day);
            if (isGuest(guest)) {
                takenFor[guest]++;
            }
            log.add(TAKEN_IN, hook.handle(), day);
            return tagWithCheck(hook.handle());
        }

        int carry(Hook from, Hook to) {
            int entry = handles.give(to.handle(), handles.ownerOf(from.coat));
            handles.follow(from.coat, entry);
            to.hang(entry, from.coatSize, from.coatDay);
            departures++;
            from.release(departures);
            log.add(MOVED, to.handle(), day);
            return tagWithCheck(to.handle());
        }

        int carryAll(Rack source, Rack target) {
            int moved = 0;
            for (int i = 0; i < source.hookCount; i++) {
                Hook from = source.hookAt(i);
                Hook to = target.lowestHookThatCanHold();
                if (from != null && from.holdsCoat() && to != null) {
                    carry(from, to);
                    moved++;
                }
            }
            return moved;
        }

        /** Lets a coat leave the room, and answers the money that is earned by it. */
        int handOver(Hook hook, int kind, int money) {
            handles.finish(hook.coat, kind - KIND_ABOVE_END);
            log.add(kind, hook.handle(), day);
            departures++;
            hook.release(departures);
            earned += money;
            return money;
        }

        int passOneDay() {
            day++;
            int auctioned = 0;
            for (int number = 0; number < HOOKS; number++) {
                Hook hook = coatAt(number);
                if (hook != null && day - hook.coatDay > settings[LIMIT]) {
                    handOver(hook, AUCTIONED, AUCTIONED_FOR * hook.coatSize);
                    auctioned++;
                }
            }
            return auctioned;
        }

        int dueFor(Hook hook) {
            int rent = settings[RENT];
            return Math.max(rent, hook.coatSize * rent * (day - hook.coatDay));
        }

        boolean isCoatOf(int guest, Hook hook) {
            return hook != null && handles.ownerOf(hook.coat) == guest;
        }

        Hook hookOfGuest(int guest, int place) {
            int before = 0;
            for (int number = 0; number < HOOKS; number++) {
                Hook hook = coatAt(number);
                if (isCoatOf(guest, hook)) {
                    if (before == place) {
                        return hook;
                    }
                    before++;
                }
            }
            return null;
        }

        int coatsOfGuest(int guest) {
            int sum = 0;
            for (int number = 0; number < HOOKS; number++) {
                sum += isCoatOf(guest, coatAt(number)) ? 1 : 0;
            }
            return sum;
        }

        int dueForGuest(int guest) {
            int sum = 0;
            for (int number = 0; number < HOOKS; number++) {
                Hook hook = coatAt(number);
                sum += hook != null && isCoatOf(guest, hook) ? dueFor(hook) : 0;
            }
            return sum;
        }

        int hooksInAll() {
            int sum = 0;
            for (int i = 0; i < rackCount; i++) {
                Rack rack = rackAt(i);
                sum += rack == null ? 0 : rack.hookCount;
            }
            return sum;
        }

        int total(int what) {
            int sum = 0;
            for (int i = 0; i < rackCount; i++) {
                Rack rack = rackAt(i);
                sum += rack == null ? 0 : rack.total(what);
            }
            return sum;
        }

        void copyFrom(State other) {
            rackCount = other.rackCount;
            day = other.day;
            earned = other.earned;
            departures = other.departures;
            for (int i = 0; i < MOST_RACKS; i++) {
                racks[i].copyFrom(other.racks[i]);
            }
            handles.copyFrom(other.handles);
            log.copyFrom(other.log);
            System.arraycopy(other.settings, 0, settings, 0, SETTINGS);
            System.arraycopy(other.takenFor, 0, takenFor, 0, GUESTS);
        }
    }

    /** The latest states before acts; a state that is dropped is written over by the newest. */
    private static final class History {
        static final int MOST = 4;

        private final State[] states = new State[MOST];
        private int newest = 0;
        int size = 0;

        History() {
            for (int i = 0; i < MOST; i++) {
                states[i] = new State();
            }
        }

        void record(State before) {
            newest = Math.floorMod(newest + 1, MOST);
            states[newest].copyFrom(before);
            size = Math.min(size + 1, MOST);
        }

        boolean takeBack(State into) {
            if (size == 0) {
                return false;
            }
            into.copyFrom(states[newest]);
            newest = Math.floorMod(newest - 1, MOST);
            size--;
            return true;
        }
    }

    /** The text that is typed, and the tags that were read from it last. */
    private static final class TagText {
        static final int MOST_CHARACTERS = 60;
        /** Each tag but the last takes a digit and a comma at least. */
        static final int MOST_TAGS = 30;
        static final int MOST_DIGITS = 5;
        static final int NO_FAULT = -1;

        private final char[] characters = new char[MOST_CHARACTERS];
        int length = 0;
        final int[] tags = new int[MOST_TAGS];
        int tagCount = 0;

        boolean append(char character) {
            if (length < 0 || length >= MOST_CHARACTERS) {
                return false;
            }
            characters[length] = character;
            length++;
            return true;
        }

        /** Answers the fault of the text, or NO_FAULT. */
        int readTags() {
            tagCount = 0;
            int digits = 0;
            int value = 0;
            for (int i = 0; i < length && i < MOST_CHARACTERS; i++) {
                char character = characters[i];
                if (character == ',' && digits > 0) {
                    addTag(value);
                    digits = 0;
                    value = 0;
                } else if (isDigit(character) && takesDigit(digits, value)) {
                    value = 10 * value + (character - '0');
                    digits++;
                } else {
                    return i;
                }
            }
            if (digits == 0) {
                return length;
            }
            addTag(value);
            return NO_FAULT;
        }

        private void addTag(int value) {
            if (tagCount < MOST_TAGS) {
                tags[tagCount] = value;
                tagCount++;
            }
        }

        private static boolean isDigit(char character) {
            return character >= '0' && character <= '9';
        }

        /** A tag that has digits and the value 0 is the single digit 0, behind which none may stand. */
        private static boolean takesDigit(int digits, int value) {
            return digits == 0 || value > 0 && digits < MOST_DIGITS;
        }
    }
}
