import java.util.ArrayList;
import java.util.HashMap;
import java.util.List;
import java.util.Map;
import java.util.TreeMap;
import java.util.regex.Matcher;
import java.util.regex.Pattern;

/** The document once more, by maps and copies, without a thought for speed: what ReferenceTest compares with. */
final class ReferenceRoom {
    private static final Pattern TAGS = Pattern.compile("(0|[1-9][0-9]{0,4})(,(0|[1-9][0-9]{0,4}))*");

    private static final class Coat {
        int guest, size, day, hook, end;
        Coat copy() {
            Coat c = new Coat();
            c.guest = guest; c.size = size; c.day = day; c.hook = hook; c.end = end;
            return c;
        }
    }

    private static final class World {
        List<int[]> racks = new ArrayList<>();              // hooks, size, open
        Map<Integer, Integer> years = new HashMap<>();
        Map<Integer, Boolean> retired = new HashMap<>();
        List<Integer> leavings = new ArrayList<>();         // hooks, in the order in which coats left them
        List<Coat> coats = new ArrayList<>();
        TreeMap<Integer, Integer> coatOn = new TreeMap<>(); // hook to coat
        Map<Integer, Integer> coatOfHandle = new HashMap<>();
        Map<Integer, Integer> follows = new HashMap<>();
        List<int[]> events = new ArrayList<>();
        int day, earned;
        int[] set = {0, 2, 30};

        World copy() {
            World w = new World();
            for (int[] r : racks) w.racks.add(r.clone());
            w.years.putAll(years);
            w.retired.putAll(retired);
            w.leavings.addAll(leavings);
            for (Coat c : coats) w.coats.add(c.copy());
            w.coatOn.putAll(coatOn);
            w.coatOfHandle.putAll(coatOfHandle);
            w.follows.putAll(follows);
            w.events.addAll(events);
            w.day = day;
            w.earned = earned;
            w.set = set.clone();
            return w;
        }
    }

    private World w = new World();
    private World kept = null;
    private final List<World> history = new ArrayList<>();
    private final StringBuilder text = new StringBuilder();

    private void record(World before) {
        history.add(before);
        if (history.size() > 4) history.remove(0);
    }

    private static final int[] WITH_CHECK = new int[6000];
    static {
        for (int handle = 0; handle < 6000; handle++) WITH_CHECK[handle] = reckonCheck(handle);
    }

    private static int withCheck(int handle) { return WITH_CHECK[handle]; }

    private static int reckonCheck(int handle) {
        String four = String.format("%04d", handle);
        int[] weights = {3, 1, 7, 9};
        int sum = 0;
        for (int i = 0; i < 4; i++) sum += weights[i] * (four.charAt(i) - '0');
        return Integer.parseInt(four + sum % 10);
    }

    private boolean isRack(int r) { return r >= 0 && r < w.racks.size(); }
    private boolean isHook(int h) { return h >= 0 && isRack(h / 12) && h % 12 < w.racks.get(h / 12)[0]; }
    private int year(int h) { return w.years.getOrDefault(h, 0); }
    private boolean isRetired(int h) { return w.retired.getOrDefault(h, false); }
    private int handle(int h) { return 100 * h + year(h); }
    private boolean free(int h, int size) {
        int[] r = w.racks.get(h / 12);
        return !w.coatOn.containsKey(h) && !isRetired(h) && r[2] == 1 && size <= r[1];
    }
    private List<Integer> hooks() {
        List<Integer> all = new ArrayList<>();
        for (int h = 0; h < 60; h++) if (isHook(h)) all.add(h);
        return all;
    }
    private int coatsOn(int rack) {
        return w.coatOn.subMap(12 * rack, 12 * rack + 12).size();
    }
    private int last(int handle) {
        while (w.follows.containsKey(handle)) handle = w.follows.get(handle);
        return handle;
    }
    private int way(int handle) {
        return w.follows.containsKey(handle) ? 1 + way(w.follows.get(handle)) : 0;
    }
    private int tagError(int tag) {
        if (tag < 0 || tag > 59999 || withCheck(tag / 10) != tag) return -2;
        Integer coat = w.coatOfHandle.get(tag / 10);
        if (coat == null) return -1;
        int end = w.coats.get(coat).end;
        return end == 0 ? 0 : end == 1 ? -6 : -7;
    }
    private int dueFor(Coat c) {
        return Math.max(w.set[1], c.size * w.set[1] * (w.day - c.day));
    }
    private void leave(int hook) {
        w.coatOn.remove(hook);
        w.leavings.add(hook);
        if (year(hook) == 99) w.retired.put(hook, true);
        else w.years.put(hook, year(hook) + 1);
    }
    private void put(int coat, int hook) {
        w.coatOn.put(hook, coat);
        w.coats.get(coat).hook = hook;
        w.coatOfHandle.put(handle(hook), coat);
    }
    private void goes(int coat, int end, int money) {
        Coat c = w.coats.get(coat);
        w.events.add(new int[] {end + 1, handle(c.hook), w.day});
        c.end = end;
        leave(c.hook);
        w.earned += money;
    }
    private void carry(int coat, int to) {
        Coat c = w.coats.get(coat);
        w.follows.put(handle(c.hook), handle(to));
        leave(c.hook);
        put(coat, to);
        w.events.add(new int[] {1, handle(to), w.day});
    }

    int addRack(int hooks, int size) {
        if (hooks < 1 || hooks > 12 || size < 1 || size > 5) return -2;
        if (w.racks.size() == 5) return -3;
        record(w.copy());
        w.racks.add(new int[] {hooks, size, 1});
        return w.racks.size() - 1;
    }

    int open(int rack, boolean open) {
        if (!isRack(rack)) return -1;
        int want = open ? 1 : 0;
        if (w.racks.get(rack)[2] == want) return -5;
        record(w.copy());
        w.racks.get(rack)[2] = want;
        return coatsOn(rack);
    }

    int age(int hook, int year) {
        if (!isHook(hook)) return -1;
        if (year <= year(hook) || year > 99) return -2;
        if (w.coatOn.containsKey(hook) || isRetired(hook)) return -4;
        record(w.copy());
        int before = year(hook);
        w.years.put(hook, year);
        return before;
    }

    int set(int what, int value) {
        int[] low = {0, 0, 1};
        int[] high = {3, 50, 99};
        if (what < 0 || what > 2 || value < low[what] || value > high[what]) return -2;
        if (w.set[what] == value) return -5;
        record(w.copy());
        int before = w.set[what];
        w.set[what] = value;
        return before;
    }

    int next(int size) {
        if (size < 1 || size > 5) return -2;
        List<Integer> free = new ArrayList<>();
        for (int h : hooks()) if (free(h, size)) free.add(h);
        if (free.isEmpty()) return -5;
        int rule = w.set[0];
        free.sort((a, b) -> {
            int by = 0;
            if (rule == 1) by = Integer.compare(w.leavings.lastIndexOf(b), w.leavings.lastIndexOf(a));
            if (rule == 2) by = Integer.compare(w.leavings.lastIndexOf(a), w.leavings.lastIndexOf(b));
            if (rule == 3) by = Integer.compare(year(a), year(b));
            return by != 0 ? by : Integer.compare(a, b);
        });
        return free.get(0);
    }

    int take(int guest, int size) {
        if (guest < 0 || guest > 19) return -1;
        if (size < 1 || size > 5) return -2;
        int hook = next(size);
        if (hook < 0) return -3;
        record(w.copy());
        Coat c = new Coat();
        c.guest = guest; c.size = size; c.day = w.day;
        w.coats.add(c);
        put(w.coats.size() - 1, hook);
        w.events.add(new int[] {0, handle(hook), w.day});
        return withCheck(handle(hook));
    }

    int due(int tag) {
        int error = tagError(tag);
        return error != 0 ? error : dueFor(w.coats.get(w.coatOfHandle.get(tag / 10)));
    }

    int claim(int tag) {
        int due = due(tag);
        if (due < 0) return due;
        record(w.copy());
        goes(w.coatOfHandle.get(tag / 10), 1, due);
        return due;
    }

    int giveOut(int guest, int place) {
        if (guest < 0 || guest > 19) return -1;
        List<Integer> his = new ArrayList<>();
        for (int coat : w.coatOn.values()) if (w.coats.get(coat).guest == guest) his.add(coat);
        if (place < 0 || place >= his.size()) return -1;
        record(w.copy());
        int due = dueFor(w.coats.get(his.get(place))) + 50;
        goes(his.get(place), 2, due);
        return due;
    }

    int move(int tag, int hook) {
        int error = tagError(tag);
        if (error != 0) return error;
        if (!isHook(hook)) return -1;
        int coat = w.coatOfHandle.get(tag / 10);
        if (!free(hook, w.coats.get(coat).size)) return -4;
        record(w.copy());
        carry(coat, hook);
        return withCheck(handle(hook));
    }

    int moveAll(int from, int to) {
        if (!isRack(from) || !isRack(to)) return -1;
        if (from == to) return -2;
        if (coatsOn(from) == 0) return -5;
        World before = w.copy();
        int moved = 0;
        for (int coat : new ArrayList<>(w.coatOn.subMap(12 * from, 12 * from + 12).values())) {
            int target = -1;
            for (int h = 12 * to + 11; h >= 12 * to; h--) if (isHook(h) && free(h, w.coats.get(coat).size)) target = h;
            if (target < 0) {
                w = before;
                return -4;
            }
            carry(coat, target);
            moved++;
        }
        record(before);
        return moved;
    }

    int shorten() {
        World before = w.copy();
        int changed = 0;
        for (int handle : before.follows.keySet()) {
            int end = last(handle);
            if (before.follows.get(handle) != end) {
                changed++;
                w.follows.put(handle, end);
            }
        }
        if (changed == 0) return -5;
        record(before);
        return changed;
    }

    int pass(int days) {
        if (days < 1 || days > 60) return -2;
        if (w.day + days > 9999) return -4;
        record(w.copy());
        int gone = 0;
        for (int i = 0; i < days; i++) {
            w.day++;
            for (int coat : new ArrayList<>(w.coatOn.values())) {
                if (w.day - w.coats.get(coat).day > w.set[2]) {
                    goes(coat, 3, 10 * w.coats.get(coat).size);
                    gone++;
                }
            }
        }
        return gone;
    }

    int type(char c) {
        if (text.length() == 60) return -3;
        return text.append(c).length();
    }

    int clearText() {
        int length = text.length();
        text.setLength(0);
        return length;
    }

    /** A fault is behind the longest start of the text that can still become a text of tags. */
    private int fault() {
        Matcher m = TAGS.matcher(text);
        if (m.matches()) return -1;
        for (int i = 0; i < text.length(); i++) {
            String start = text.substring(0, i + 1);
            if (!TAGS.matcher(start).matches() && !TAGS.matcher(start + "1").matches()) return i;
        }
        return text.length();
    }

    int claimAll() {
        int fault = fault();
        if (fault >= 0) return -100 - fault;
        World before = w.copy();
        int sum = 0;
        for (String tag : text.toString().split(",")) {
            int due = due(Integer.parseInt(tag));
            if (due < 0) {
                w = before;
                return due;
            }
            goes(w.coatOfHandle.get(Integer.parseInt(tag) / 10), 1, due);
            sum += due;
        }
        record(before);
        return sum;
    }

    int undo() {
        if (history.isEmpty()) return -5;
        w = history.remove(history.size() - 1);
        return history.size();
    }

    int keep() {
        kept = w.copy();
        return w.coatOn.size();
    }

    int restore() {
        if (kept == null) return -5;
        record(w);
        w = kept.copy();
        return w.coatOn.size();
    }

    int rack(int rack, int what) {
        if (!isRack(rack)) return -1;
        if (what < 0 || what > 5) return -2;
        if (what < 3) return w.racks.get(rack)[what];
        if (what == 3) return coatsOn(rack);
        int sum = 0;
        for (int h : hooks()) if (h / 12 == rack) sum += what == 5 ? year(h) : isRetired(h) ? 1 : 0;
        return sum;
    }

    int hook(int hook, int what) {
        if (!isHook(hook)) return -1;
        if (what < 0 || what > 7) return -2;
        boolean holds = w.coatOn.containsKey(hook);
        if (what == 0) return year(hook);
        if (what == 1) return holds ? 1 : 0;
        if (what == 2) return isRetired(hook) ? 1 : 0;
        if (what == 7) {
            int times = 0;
            for (int h : w.leavings) if (h == hook) times++;
            return times;
        }
        if (!holds) return -5;
        Coat c = w.coats.get(w.coatOn.get(hook));
        return what == 3 ? c.guest : what == 4 ? c.size : what == 5 ? c.day : withCheck(handle(hook));
    }

    int tag(int tag, int what) {
        int error = tagError(tag);
        if (error == -2 || what < 0 || what > 5) return -2;
        if (error == -1) return -1;
        int handle = tag / 10;
        Coat c = w.coats.get(w.coatOfHandle.get(handle));
        if (what == 0) return c.end == 0 ? c.hook : -5;
        if (what == 1) return way(handle);
        if (what == 2) return c.end;
        if (what == 3) return withCheck(last(handle));
        if (what == 4) return w.follows.containsKey(handle) ? withCheck(w.follows.get(handle)) : -5;
        return c.guest;
    }

    int tagOf(int handle) {
        return handle < 0 || handle > 5999 ? -2 : withCheck(handle);
    }

    int guest(int guest, int what) {
        if (guest < 0 || guest > 19) return -1;
        if (what < 0 || what > 2) return -2;
        int here = 0, due = 0, all = 0;
        for (Coat c : w.coats) {
            if (c.guest != guest) continue;
            all++;
            if (c.end == 0) {
                here++;
                due += dueFor(c);
            }
        }
        return what == 0 ? here : what == 1 ? due : all;
    }

    int event(int back, int what) {
        if (back < 0 || what < 0 || what > 2) return -2;
        if (back > 9 || back >= w.events.size()) return -5;
        return w.events.get(w.events.size() - 1 - back)[what];
    }

    private int events(int kind) {
        int sum = 0;
        for (int[] event : w.events) if (event[0] == kind) sum++;
        return sum;
    }

    int count(int what) {
        int retired = 0;
        for (int h : hooks()) if (isRetired(h)) retired++;
        int greatest = 0;
        if (what == 12) for (int handle : w.coatOfHandle.keySet()) greatest = Math.max(greatest, way(handle));
        int[] all = {w.day, w.racks.size(), hooks().size(), w.coatOn.size(), retired, w.coatOfHandle.size(), w.coats.size(),
            events(2), events(3), events(4), events(1), w.earned, greatest, w.set[0], w.set[1], w.set[2], history.size(), text.length()};
        return what < 0 || what >= all.length ? -2 : all[what];
    }
}
