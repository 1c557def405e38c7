import java.util.ArrayList;
import java.util.List;

/**
 * One call of a run, read from its text: "take(0, 1) = #0". An argument or answer is a number, MIN or MAX for the
 * smallest and the greatest int, a constant of the document, or #h for the tag of the handle h; "+" and "*" between
 * them reckon. A text holds several calls with ";" between; "3 x undo()" is three calls, "next(0|6)" is one for each.
 * "text(0,#100)" types its characters one by one.
 */
final class Call {
    private static final String[] CONSTANTS = {"UNKNOWN", "BAD_VALUE", "FULL", "NOT_POSSIBLE", "NONE", "RETURNED", "GONE"};

    private final String name;
    private final String nameAndWidth;
    private final int[] arguments;
    private final boolean hasDue;
    private final int due;

    private Call(String name, int[] arguments, boolean hasDue, int due) {
        this.name = name;
        this.nameAndWidth = name + "/" + arguments.length;
        this.arguments = arguments;
        this.hasDue = hasDue;
        this.due = due;
    }

    static Call of(String name, int... arguments) {
        return new Call(name, arguments, false, 0);
    }

    boolean hasDue() {
        return hasDue;
    }

    int due() {
        return due;
    }

    @Override
    public String toString() {
        StringBuilder s = new StringBuilder(name).append('(');
        for (int i = 0; i < arguments.length; i++) {
            s.append(i == 0 ? "" : ", ").append(arguments[i]);
        }
        return s.append(')').toString();
    }

    int on(YearTags x) {
        int a = arguments.length > 0 ? arguments[0] : 0;
        int b = arguments.length > 1 ? arguments[1] : 0;
        switch (nameAndWidth) {
            case "addRack/2": return x.addRack(a, b);
            case "open/2": return x.open(a, b != 0);
            case "age/2": return x.age(a, b);
            case "set/2": return x.set(a, b);
            case "take/2": return x.take(a, b);
            case "claim/1": return x.claim(a);
            case "giveOut/2": return x.giveOut(a, b);
            case "move/2": return x.move(a, b);
            case "moveAll/2": return x.moveAll(a, b);
            case "shorten/0": return x.shorten();
            case "pass/1": return x.pass(a);
            case "type/1": return x.type((char) a);
            case "clearText/0": return x.clearText();
            case "claimAll/0": return x.claimAll();
            case "undo/0": return x.undo();
            case "keep/0": return x.keep();
            case "restore/0": return x.restore();
            case "rack/2": return x.rack(a, b);
            case "hook/2": return x.hook(a, b);
            case "tag/2": return x.tag(a, b);
            case "tagOf/1": return x.tagOf(a);
            case "guest/2": return x.guest(a, b);
            case "next/1": return x.next(a);
            case "due/1": return x.due(a);
            case "event/2": return x.event(a, b);
            case "count/1": return x.count(a);
            default: throw new IllegalArgumentException("no such call: " + this);
        }
    }

    int on(ReferenceRoom y) {
        int a = arguments.length > 0 ? arguments[0] : 0;
        int b = arguments.length > 1 ? arguments[1] : 0;
        switch (nameAndWidth) {
            case "addRack/2": return y.addRack(a, b);
            case "open/2": return y.open(a, b != 0);
            case "age/2": return y.age(a, b);
            case "set/2": return y.set(a, b);
            case "take/2": return y.take(a, b);
            case "claim/1": return y.claim(a);
            case "giveOut/2": return y.giveOut(a, b);
            case "move/2": return y.move(a, b);
            case "moveAll/2": return y.moveAll(a, b);
            case "shorten/0": return y.shorten();
            case "pass/1": return y.pass(a);
            case "type/1": return y.type((char) a);
            case "clearText/0": return y.clearText();
            case "claimAll/0": return y.claimAll();
            case "undo/0": return y.undo();
            case "keep/0": return y.keep();
            case "restore/0": return y.restore();
            case "rack/2": return y.rack(a, b);
            case "hook/2": return y.hook(a, b);
            case "tag/2": return y.tag(a, b);
            case "tagOf/1": return y.tagOf(a);
            case "guest/2": return y.guest(a, b);
            case "next/1": return y.next(a);
            case "due/1": return y.due(a);
            case "event/2": return y.event(a, b);
            case "count/1": return y.count(a);
            default: throw new IllegalArgumentException("no such call: " + this);
        }
    }

    static List<Call> read(String text) {
        List<Call> calls = new ArrayList<>();
        for (String part : text.split(";")) {
            if (!part.isBlank()) {
                readPart(part.strip(), calls);
            }
        }
        return calls;
    }

    private static void readPart(String part, List<Call> into) {
        int opens = part.indexOf('(');
        int closes = part.lastIndexOf(')');
        String[] head = part.substring(0, opens).split(" x ");
        String name = head[head.length - 1].strip();
        int times = head.length > 1 ? Integer.parseInt(head[0].strip()) : 1;
        String inside = part.substring(opens + 1, closes);
        String answer = part.substring(closes + 1).replace("=", "").strip();
        for (int i = 0; i < times; i++) {
            if (name.equals("text")) {
                typed(inside, into);
            } else {
                eachOf(name, inside.isBlank() ? new String[0] : inside.split(","), answer, into);
            }
        }
    }

    private static void typed(String characters, List<Call> into) {
        StringBuilder s = new StringBuilder();
        String[] tags = characters.split(",", -1);
        for (int i = 0; i < tags.length; i++) {
            s.append(i == 0 ? "" : ",").append(tags[i].startsWith("#") ? "" + number(tags[i]) : tags[i]);
        }
        for (int i = 0; i < s.length(); i++) {
            into.add(of("type", s.charAt(i)));
        }
    }

    private static void eachOf(String name, String[] arguments, String answer, List<Call> into) {
        String[] firsts = arguments.length > 0 ? arguments[0].split("\\|") : new String[] {"0"};
        String[] seconds = arguments.length > 1 ? arguments[1].split("\\|") : new String[] {"0"};
        for (String first : firsts) {
            for (String second : seconds) {
                int[] both = {number(first), number(second)};
                int[] these = java.util.Arrays.copyOf(both, arguments.length);
                into.add(new Call(name, these, !answer.isEmpty(), answer.isEmpty() ? 0 : number(answer)));
            }
        }
    }

    private static int number(String text) {
        int sum = 0;
        for (String part : text.split("\\+")) {
            int product = 1;
            for (String factor : part.split("\\*")) {
                product *= plain(factor.strip());
            }
            sum += product;
        }
        return sum;
    }

    private static int plain(String text) {
        for (int i = 0; i < CONSTANTS.length; i++) {
            if (CONSTANTS[i].equals(text)) {
                return -1 - i;
            }
        }
        switch (text) {
            case "MIN": return Integer.MIN_VALUE;
            case "MAX": return Integer.MAX_VALUE;
            case "true": return 1;
            case "false": return 0;
            default: return text.startsWith("#") ? tagOf(Integer.parseInt(text.substring(1))) : Integer.parseInt(text);
        }
    }

    /** The document's tag of a handle, reckoned from its four digits as they are written. */
    static int tagOf(int handle) {
        String four = String.format("%04d", handle);
        int[] weights = {3, 1, 7, 9};
        int sum = 0;
        for (int i = 0; i < 4; i++) {
            sum += weights[i] * (four.charAt(i) - '0');
        }
        return 10 * handle + sum % 10;
    }
}
