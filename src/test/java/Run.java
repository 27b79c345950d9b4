import java.lang.reflect.InvocationTargetException;
import java.lang.reflect.Method;
import java.lang.reflect.Modifier;
import java.util.List;
import java.util.Map;
import java.util.TreeMap;
import java.util.regex.Matcher;
import java.util.regex.Pattern;

/**
 * A run of calls of a new rota, as a text: "member(2)=0 3*pass(1) leave(7)=Unsupported". Behind
 * the "=" stands the answer that is due, or the first words of the exception that is due; a call
 * without it may not throw, but for one with "?". "min" and "max" are the least and the greatest
 * int, "#41" is a character by its number. Besides the methods of the face there are text(..),
 * which appends many characters, written(), the whole line, and places(..), all members of least
 * or busiest.
 *
 * Nothing is promised of an object after its 512th call, so no run may have more.
 */
final class Run {
    private static final int MOST_CALLS = 512;
    private static final Pattern CALL =
            Pattern.compile("(?:(\\d+)\\*)?(\\w+)\\(([^()]*)\\)(=\\S*|\\?)?");
    private static final Map<String, Method> FACE = face();
    /** What more there is of a state shows behind these: the past, the snapshot and the text. */
    private static final List<String> BEHIND = List.of("", "undo()", "3*undo()", "8*undo()",
            "restore()", "commands()");

    private final BoatRota rota = new BoatRota();
    private final StringBuilder told = new StringBuilder();
    private String latest = "";
    private int calls = 0;

    private static Map<String, Method> face() {
        Map<String, Method> face = new TreeMap<>();
        for (Method method : BoatRota.class.getDeclaredMethods()) {
            if (Modifier.isPublic(method.getModifiers())) {
                face.put(method.getName(), method);
            }
        }
        return face;
    }

    /** All these calls on one new rota, and their answers are as they are due. */
    static void run(String... calls) {
        new Run().all(String.join(" ", calls));
    }

    /** The call throws, and all that a caller can see, now or later, is as if it had not been. */
    static void fails(String given, String call, String exception) {
        run(given, call + "=" + exception);
        leaves(given, call);
    }

    /** The call is refused, and nothing but the reason that is kept is as if it had not been. */
    static void refused(String given, String call, int reason, int detail) {
        run(given, call + "=Unsupported", kept(reason, detail), noCause());
        leaves(given, call, "reason");
    }

    /** The text has a fault there; the buffer is empty, and nothing else has changed. */
    static void faulty(String given, String text, int position) {
        run(given, "text(" + text + ") commands()=IllegalArgument faultPosition()=" + position,
                "account(12)=0");
        leaves(given, "text(" + text + ") commands()", "text", "fault");
    }

    /** The text is refused at this command; nothing but the reason and the buffer has changed. */
    static void refusedText(String given, String text, int index, int cause, int detail) {
        run(given, "text(" + text + ") commands()=Unsupported faultPosition()=-1 account(12)=0",
                kept(12, index), "reason(true,false)=" + cause + " reason(true,true)=" + detail);
        leaves(given, "text(" + text + ") commands()", "text", "fault", "reason");
    }

    static String kept(int reason, int detail) {
        return "reason(false,false)=" + reason + " reason(false,true)=" + detail;
    }

    static String noCause() {
        return "reason(true,false)=NoSuchElement reason(true,true)=NoSuchElement";
    }

    /** Behind these calls all is as it was before them, but for the parts that are named. */
    static void leaves(String given, String calls, String... but) {
        for (String behind : BEHIND) {
            Check.same("[" + given + "] behind " + calls
                    + (behind.isEmpty() ? "" : ", then " + behind),
                    seen(given, "", behind, but), seen(given, calls, behind, but));
        }
    }

    /** Behind the same calls both answer, or throw, the same. */
    static void sameAnswers(String given, String one, String other) {
        Run run = new Run();
        run.each(given, true);
        Check.same("[" + given + "] " + other + " and not " + one, run.answers(one),
                run.answers(other));
    }

    private String answers(String call) {
        Matcher matcher = CALL.matcher(call);
        return matcher.matches() ? called(matcher.group(2), matcher.group(3)) : "no call: " + call;
    }

    /** Both runs lead to the same, but for the parts that are named. */
    static void alike(String one, String other, String... but) {
        Check.same("[" + other + "] and not [" + one + "]", seen(one, "", "", but),
                seen(other, "", "", but));
    }

    private static String seen(String given, String calls, String behind, String... but) {
        Run run = new Run();
        run.all(given);
        run.each(calls, false);
        run.each(behind, false);
        return (behind.isEmpty() ? "" : behind + " " + run.latest + " ") + run.view(List.of(but));
    }

    private void all(String calls) {
        each(calls, true);
    }

    private void each(String calls, boolean isChecked) {
        Matcher matcher = CALL.matcher(calls);
        int end = 0;
        while (matcher.find()) {
            readable(calls, end, matcher.start());
            end = matcher.end();
            int times = matcher.group(1) == null ? 1 : Integer.parseInt(matcher.group(1));
            for (int k = 0; k < times; k++) {
                one(matcher, isChecked);
            }
        }
        readable(calls, end, calls.length());
    }

    private void readable(String calls, int from, int to) {
        if (!calls.substring(from, to).isBlank()) {
            Check.fail("no call of a run: " + calls.substring(from, to));
        }
    }

    private void one(Matcher call, boolean isChecked) {
        String name = call.group(2);
        String answer = called(name, call.group(3));
        latest = answer;
        told.append(told.length() == 0 ? "" : " ").append(name).append('(')
                .append(call.group(3)).append(')');
        String due = call.group(4) == null ? "" : call.group(4);
        if (due.startsWith("=")) {
            Check.same("[" + told + "]", due.substring(1), answer);
        } else if (isChecked && due.isEmpty() && isException(answer)) {
            Check.fail("[" + told + "] threw " + answer);
        }
        if (calls > MOST_CALLS) {
            Check.fail("[" + told + "] has more than " + MOST_CALLS + " calls");
        }
    }

    private static boolean isException(String answer) {
        return answer.length() > 3 && Character.isUpperCase(answer.charAt(0));
    }

    private String called(String name, String arguments) {
        switch (name) {
            case "text":
                String length = "0";
                for (char sign : arguments.toCharArray()) {
                    length = plainly("append", sign);
                }
                return length;
            case "written": return listed("character");
            case "places": return listed(arguments);
            default: return plainly(name, converted(name, arguments));
        }
    }

    /** The answers of a method for 0, 1 and so on, until it throws. */
    private String listed(String name) {
        StringBuilder out = new StringBuilder();
        for (int k = 0; k < 100; k++) {
            String answer = plainly(name, k);
            if (isException(answer)) {
                return out.toString();
            }
            out.append(answer);
        }
        return "a list without an end";
    }

    private static Object[] converted(String name, String arguments) {
        String[] parts = arguments.isEmpty() ? new String[0] : arguments.split(",");
        Object[] out = new Object[parts.length];
        for (int k = 0; k < parts.length; k++) {
            out[k] = converted(FACE.get(name).getParameterTypes()[k], parts[k].trim());
        }
        return out;
    }

    private static Object converted(Class<?> type, String part) {
        if (type == boolean.class) {
            return Boolean.valueOf(part);
        }
        if (type == char.class) {
            return part.startsWith("#") ? (char) Integer.parseInt(part.substring(1))
                    : part.charAt(0);
        }
        return part.equals("min") ? Integer.MIN_VALUE : part.equals("max") ? Integer.MAX_VALUE
                : Integer.parseInt(part);
    }

    private String plainly(String name, Object... arguments) {
        calls++;
        try {
            return String.valueOf(FACE.get(name).invoke(rota, arguments));
        } catch (InvocationTargetException e) {
            String thrown = e.getCause().getClass().getSimpleName();
            return thrown.replaceFirst("(Operation)?Exception$", "");
        } catch (IllegalAccessException e) {
            throw new IllegalStateException(e);
        }
    }

    private String number(String name, Object... arguments) {
        return plainly(name, arguments) + " ";
    }

    /** All that can be looked at, without the parts that are named. */
    private String view(List<String> but) {
        StringBuilder out = new StringBuilder();
        if (!but.contains("station")) {
            station(out);
        }
        if (!but.contains("undo")) {
            out.append("undo ").append(number("account", 11));
        }
        if (!but.contains("text")) {
            out.append("text ").append(number("account", 12));
        }
        if (!but.contains("fault")) {
            out.append("fault ").append(number("faultPosition"));
        }
        if (!but.contains("line")) {
            out.append("line ").append(listed("character")).append(' ');
        }
        for (int k = 0; k < 4 && !but.contains("reason"); k++) {
            out.append(k == 0 ? "reason " : "").append(number("reason", k >= 2, k % 2 == 1));
        }
        if (calls > MOST_CALLS) {
            Check.fail("[" + told + "] has more than " + MOST_CALLS + " calls with its view");
        }
        return out.toString();
    }

    /** What can be undone. */
    private void station(StringBuilder out) {
        out.append("accounts ");
        for (int what = 0; what <= 10; what++) {
            out.append(number("account", what));
        }
        numbers(out, "memberOf", rota.account(1), 7);
        numbers(out, "boatOf", rota.account(3), 6);
        numbers(out, "loanOf", rota.account(5), 2);
        for (int boat = 0; boat < rota.account(3); boat++) {
            out.append("crew ").append(number("crew", boat));
        }
        calls += 4;
        out.append("height ").append(number("height", 0));
        out.append("able ").append(number("able")).append("free ").append(number("free"));
        out.append("out ").append(number("outShare"));
    }

    private void numbers(StringBuilder out, String name, int count, int most) {
        for (int k = 0; k < count; k++) {
            out.append(name).append(' ').append(k).append(": ");
            for (int what = 0; what <= most; what++) {
                out.append(number(name, k, what));
            }
        }
    }
}
