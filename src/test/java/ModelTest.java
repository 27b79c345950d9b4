import java.lang.reflect.InvocationTargetException;
import java.lang.reflect.Method;
import java.util.ArrayList;
import java.util.Comparator;
import java.util.List;
import java.util.Map;
import java.util.Random;
import java.util.TreeMap;

/**
 * Runs of up to 512 calls, chosen by seeded dice, on a rota and on the model: every answer is the
 * same. It fails too if a method never answered, or never threw what it can throw: then the dice
 * would prove too little.
 */
public final class ModelTest {
    private static final int RUNS = 3000;
    /** No answer is promised behind the 512th call; a text, and the look at all, come behind. */
    private static final int CALLS = 512 - 110 - 180;
    private static final String[] CHANGES = {"member", "leave", "train", "boat", "call", "call",
        "call", "undo", "call", "borrow", "borrow", "giveBack", "limit", "pass", "pass", "pass",
        "pass"};
    private static final Map<String, Integer> SEEN = new TreeMap<>();

    private final Random dice;
    private final int mood;
    private final BoatRota rota = new BoatRota();
    private final Model model = new Model();
    private final List<String> told = new ArrayList<>();

    private ModelTest(long seed) {
        // Seeds that lie side by side give first throws that are alike.
        dice = new Random(seed * 0x9E3779B97F4A7C15L);
        mood = dice.nextInt(4);
    }

    public static void main(String[] args) throws Exception {
        List<Method> methods = new ArrayList<>();
        for (Method method : BoatRota.class.getMethods()) {
            if (method.getDeclaringClass() == BoatRota.class) {
                methods.add(method);
            }
        }
        methods.sort(Comparator.comparing(Method::getName));
        for (int seed = 0; seed < RUNS; seed++) {
            if (!new ModelTest(seed).run(methods)) {
                break;
            }
        }
        for (Method method : methods) {
            Check.same(method.getName() + " answered", 1,
                    SEEN.containsKey(method.getName() + " answers") ? 1 : 0);
            for (Class<?> kind : method.getExceptionTypes()) {
                String key = method.getName() + " " + kind.getSimpleName();
                Check.same(key + " was seen", 1, SEEN.containsKey(key) ? 1 : 0);
            }
        }
        for (int reason = 1; reason <= 12; reason++) {
            Check.same("the reason " + reason + " was seen", 1,
                    SEEN.containsKey("reason " + reason) ? 1 : 0);
        }
        if (args.length > 0) {
            System.out.println(SEEN);
        }
        Check.end("ModelTest");
    }

    private boolean run(List<Method> methods) throws Exception {
        if (mood > 0) {
            startUp(methods);
        }
        while (told.size() < CALLS) {
            if (dice.nextInt(40) == 0) {
                String text = dice.nextInt(9) == 0 ? longText() : text();
                for (char sign : text.toCharArray()) {
                    if (!both(named(methods, "append"), sign)) {
                        return false;
                    }
                }
                if (!both(named(methods, "commands"))
                        || !sameForAll(methods, "reason", 2, 2)) {
                    return false;
                }
            }
            Method method = dice.nextInt(3) > 0
                    ? named(methods, CHANGES[dice.nextInt(CHANGES.length)])
                    : methods.get(dice.nextInt(methods.size()));
            if (method.getName().equals("append") || method.getName().equals("restore")) {
                // Rarer, since the one makes most texts faulty, and the other ends all undoing.
                method = dice.nextInt(9) == 0 ? method : named(methods, "commands");
            }
            if (!both(method, arguments(method))) {
                return false;
            }
            if (told.get(told.size() - 1).endsWith("UnsupportedOperationException")) {
                sameForAll(methods, "reason", 2, 2);
            }
        }
        boolean isSame = sameAtTheEnd(methods);
        Check.same("no more calls than are promised, " + told.size(), 1,
                told.size() <= 512 ? 1 : 0);
        return isSame;
    }

    private boolean sameAtTheEnd(List<Method> methods) throws Exception {
        return sameForAll(methods, "account", 13) && sameForAll(methods, "memberOf", 10, 8)
                && sameForAll(methods, "boatOf", 3, 7) && sameForAll(methods, "loanOf", 4, 3)
                && sameForAll(methods, "callableIn", 3) && sameForAll(methods, "homeIn", 3)
                && sameForAll(methods, "wearinessAgain", 3) && sameForAll(methods, "crew", 3)
                && sameForAll(methods, "line", 3) && sameForAll(methods, "character", 16)
                && sameForAll(methods, "least", 10) && sameForAll(methods, "busiest", 10);
    }

    /** Calls a method with all numbers below the bounds; for truths, 0 is false and 1 true. */
    private boolean sameForAll(List<Method> methods, String name, int... bounds)
            throws Exception {
        boolean isSame = true;
        for (int k = 0; k < bounds[0] && isSame; k++) {
            for (int i = 0; i < (bounds.length > 1 ? bounds[1] : 1) && isSame; i++) {
                isSame = name.equals("reason") ? both(named(methods, name), k == 1, i == 1)
                        : bounds.length > 1 ? both(named(methods, name), k, i)
                        : both(named(methods, name), k);
            }
        }
        return isSame;
    }

    /** Most runs start with a station that has members and boats, so that boats go out. */
    private void startUp(List<Method> methods) throws Exception {
        int members = 4 + dice.nextInt(7);
        for (int k = 0; k < members; k++) {
            both(named(methods, "member"), k == 0 ? 2 : dice.nextInt(3));
        }
        for (int k = 0; k < mood; k++) {
            both(named(methods, "boat"), dice.nextInt(7), 2 + dice.nextInt(5));
        }
    }

    private static Method named(List<Method> methods, String name) {
        return methods.stream().filter(m -> m.getName().equals(name)).findFirst().orElseThrow();
    }

    private boolean both(Method method, Object... arguments) throws Exception {
        String got = answer(method, rota, arguments);
        Method twin = Model.class.getMethod(method.getName(), method.getParameterTypes());
        String due = answer(twin, model, arguments);
        told.add(method.getName() + java.util.Arrays.toString(arguments) + " " + due);
        String kind = Character.isUpperCase(due.charAt(0)) ? due : "answers";
        SEEN.merge(method.getName() + " " + kind, 1, Integer::sum);
        if (method.getName().equals("reason") && kind.equals("answers")
                && arguments[0].equals(false) && arguments[1].equals(false)) {
            SEEN.merge("reason " + due, 1, Integer::sum);
        }
        Check.same(told.get(told.size() - 1), due, got);
        if (!due.equals(got)) {
            System.out.println(String.join("\n", told));
        }
        return due.equals(got);
    }

    private static String answer(Method method, Object on, Object[] arguments) throws Exception {
        try {
            return String.valueOf(method.invoke(on, arguments));
        } catch (InvocationTargetException e) {
            return e.getCause().getClass().getSimpleName();
        }
    }

    private Object[] arguments(Method method) {
        Object[] out = new Object[method.getParameterCount()];
        for (int k = 0; k < out.length; k++) {
            Class<?> type = method.getParameterTypes()[k];
            out[k] = type == boolean.class ? (Object) dice.nextBoolean()
                    : type == char.class ? (Object) "mxubcoglt;0123456789 \u20ac".charAt(
                            dice.nextInt(21))
                    : (Object) number(method.getName(), k);
        }
        return out;
    }

    private int number(String name, int index) {
        if (dice.nextInt(25) == 0) {
            return new int[] {Integer.MIN_VALUE, -1, 0, 1, 10, 21, 49, 100,
                Integer.MAX_VALUE}[dice.nextInt(9)];
        }
        switch (name + index) {
            case "member0": return dice.nextInt(3);
            case "leave0": return dice.nextInt(30);
            case "train0":
            case "memberOf0":
            case "least0":
            case "busiest0": return dice.nextInt(11);
            case "boat0": return dice.nextInt(7);
            case "boat1": return 2 + dice.nextInt(5);
            case "call1":
            case "borrow0": return 1 + dice.nextInt(9);
            case "borrow1": return 1 + dice.nextInt(dice.nextInt(48) + 1);
            case "giveBack0":
            case "loanOf0": return dice.nextInt(4);
            case "limit0": return 1 + dice.nextInt(20);
            case "pass0": return 1 + dice.nextInt(dice.nextInt(mood == 3 ? 99 : 9) + 1);
            case "height0": return dice.nextInt(100);
            case "memberOf1": return dice.nextInt(9);
            case "boatOf1": return dice.nextInt(8);
            case "loanOf1": return dice.nextInt(4);
            case "character0": return dice.nextInt(16);
            case "account0": return dice.nextInt(13);
            default: return dice.nextInt(3);
        }
    }

    private String longText() {
        StringBuilder out = new StringBuilder(text());
        while (out.length() < 59 + dice.nextInt(4)) {
            out.append(";").append(text());
        }
        return out.toString();
    }

    private String text() {
        StringBuilder out = new StringBuilder();
        int commands = dice.nextInt(6);
        for (int k = 0; k <= commands; k++) {
            char letter = "mxubcogltttccc".charAt(dice.nextInt(14));
            out.append(k == 0 ? "" : ";").append(letter);
            out.append(letter == 't' ? dice.nextInt(20) : dice.nextInt(letter == 'm' ? 3 : 4));
            if (letter == 'b' || letter == 'c' || letter == 'o') {
                out.append(1 + dice.nextInt(letter == 'o' ? 50 : 6));
            }
        }
        if (dice.nextInt(4) == 0) {
            int at = dice.nextInt(out.length());
            if (dice.nextBoolean()) {
                out.deleteCharAt(at);
            } else {
                out.insert(at, "mxubcoglt;0123456789z".charAt(dice.nextInt(21)));
            }
        }
        return out.toString();
    }
}
