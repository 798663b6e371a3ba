import java.lang.reflect.InvocationTargetException;
import java.lang.reflect.Method;
import java.util.Set;
import java.util.regex.Matcher;
import java.util.regex.Pattern;

/**
 * One call as a file of sentences tells it: "play(0, -1) -2" with the answer that is due, "water(5)" without one, "9x
 * beat(0)" nine times. Beside the calls of the class there are: tell "a b" (the tape is emptied, fed and told), put "a b"
 * (the tape is emptied and fed), row 0 2 5 6 7 (sheet 0 becomes a row of ints with these cells).
 */
final class Call {
    private static final Set<String> ASKING = Set.of("boiler", "told", "pitch", "holds", "agree", "fault", "tuneOf", "would",
        "key", "set", "blame", "far", "heard", "step", "count");
    private static final Pattern PLAIN = Pattern.compile("(?:(\\d+)x )?(\\w+)\\(([^)]*)\\)(?: (-?\\d+))?");
    private static final Pattern TEXT = Pattern.compile("(tell|put) \"(.*)\"(?: (-?\\d+))?");
    private static final Pattern ROW = Pattern.compile("row (\\d) (\\d)((?: -?\\d+)*)");

    private final String told;
    private int often = 1;
    private String name;
    private String[] args = {};
    private String text = "";
    private String due;

    private Call(String told) {
        this.told = told;
    }

    static Call read(String told) {
        Call call = new Call(told);
        Matcher plain = PLAIN.matcher(told);
        Matcher text = TEXT.matcher(told);
        Matcher row = ROW.matcher(told);
        if (plain.matches()) {
            call.often = plain.group(1) == null ? 1 : Integer.parseInt(plain.group(1));
            call.name = plain.group(2);
            call.args = plain.group(3).isBlank() ? new String[0] : plain.group(3).split(", ");
            call.due = plain.group(4);
        } else if (text.matches()) {
            call.name = text.group(1);
            call.text = unescaped(text.group(2));
            call.due = text.group(3);
        } else if (row.matches()) {
            call.name = "row";
            call.args = told.substring(4).split(" ");
        } else {
            throw new IllegalArgumentException("not a call: " + told);
        }
        return call;
    }

    /** A byte that can not be typed stands as \xNN. */
    private static String unescaped(String text) {
        StringBuilder b = new StringBuilder();
        for (int i = 0; i < text.length(); i++) {
            if (text.charAt(i) == '\\') {
                b.append((char) Integer.parseInt(text.substring(i + 2, i + 4), 16));
                i += 3;
            } else {
                b.append(text.charAt(i));
            }
        }
        return b.toString();
    }

    String told() {
        return told;
    }

    boolean isJudged() {
        return due != null;
    }

    long due() {
        return Long.parseLong(due);
    }

    /** How many calls of the class it makes. */
    int weight() {
        if (name.equals("row")) {
            return args.length - 1;
        }
        return text.isEmpty() ? often : 3 + (text.length() + 7) / 8;
    }

    long on(SteamTunes x) {
        switch (name) {
            case "tell":
                x.end(0);
                return Check.tune(x, text);
            case "put":
                x.end(0);
                Check.feed(x, text);
                return x.count(7);
            case "row":
                return layRow(x);
            default:
                long answer = 0;
                for (int i = 0; i < often; i++) {
                    answer = callOnce(x);
                }
                return answer;
        }
    }

    private long layRow(SteamTunes x) {
        int k = Integer.parseInt(args[0]);
        int answer = x.sheet(k, Integer.parseInt(args[1]), args.length - 2);
        for (int i = 2; i < args.length; i++) {
            answer = x.lay(k, i - 2, Integer.parseInt(args[i]));
        }
        return answer;
    }

    private long callOnce(SteamTunes x) {
        for (Method m : SteamTunes.class.getMethods()) {
            if (m.getName().equals(name) && m.getParameterCount() == args.length && m.getDeclaringClass() == SteamTunes.class) {
                Object[] values = new Object[args.length];
                for (int i = 0; i < args.length; i++) {
                    values[i] = value(args[i], m.getParameterTypes()[i]);
                }
                try {
                    return (Integer) m.invoke(x, values);
                } catch (IllegalAccessException | InvocationTargetException e) {
                    throw new IllegalStateException(told, e);
                }
            }
        }
        throw new IllegalArgumentException("no such call: " + told);
    }

    private static Object value(String arg, Class<?> type) {
        if (type == boolean.class) {
            return Boolean.valueOf(arg);
        }
        if (type == long.class) {
            return Long.decode(arg);
        }
        if (arg.equals("MIN")) {
            return Integer.MIN_VALUE;
        }
        return arg.equals("MAX") ? Integer.MAX_VALUE : Integer.valueOf(arg);
    }

    /** Whether an answer says that the call was refused, or the call only asks. */
    boolean leavesAll(long answer) {
        if (ASKING.contains(name)) {
            return true;
        }
        switch (name) {
            case "tell":
            case "put":
            case "row":
                return false;
            case "stem":
            case "crack":
                return answer <= -10000;
            case "play":
                return answer == -1 || answer == -2 || answer == -100;
            case "tune":
                return answer == -3;
            default:
                return answer < 0 && often == 1;
        }
    }
}
