import java.util.NoSuchElementException;
import java.util.function.LongSupplier;

/** What the tests share: they compare, print what is wrong, and end with code 1 if anything was. */
final class Check {
    private static int wrong = 0;
    private static int looked = 0;

    private Check() {
    }

    static void same(String what, long due, long got) {
        looked++;
        if (due != got) {
            fail(what + " answered " + got + ", due is " + due);
        }
    }

    static void same(String what, double due, double got) {
        looked++;
        if (Double.compare(due, got) != 0) {
            fail(what + " answered " + got + ", due is " + due);
        }
    }

    static void same(String what, String due, String got) {
        looked++;
        if (!due.equals(got)) {
            fail(what + " answered\n  " + got + ", due is\n  " + due);
        }
    }

    static void fail(String text) {
        wrong++;
        if (wrong <= 40) {
            System.out.println(text);
        }
    }

    /** The call throws just this exception, and what can be seen of the rota stays. */
    static void fails(String what, BoatRota rota, Class<?> due, LongSupplier call) {
        String before = View.of(rota);
        same(what + " throws", due.getName(), thrown(call));
        same(what + " leaves", before, View.of(rota));
    }

    /** The call is refused for a reason that is kept, without a cause, and all else stays. */
    static void refused(String what, BoatRota rota, int reason, int detail, LongSupplier call) {
        String before = View.withoutReason(rota);
        same(what + " throws", UnsupportedOperationException.class.getName(), thrown(call));
        same(what + " leaves", before, View.withoutReason(rota));
        same(what + ": the reason", reason, rota.reason(false, false));
        same(what + ": the detail", detail, rota.reason(false, true));
        same(what + ": no cause", NoSuchElementException.class.getName(),
                thrown(() -> rota.reason(true, false)));
        same(what + ": no detail of a cause", NoSuchElementException.class.getName(),
                thrown(() -> rota.reason(true, true)));
    }

    static String thrown(LongSupplier call) {
        try {
            call.getAsLong();
        } catch (RuntimeException e) {
            return e.getClass().getName();
        }
        return "nothing";
    }

    static void write(BoatRota rota, String text) {
        for (char sign : text.toCharArray()) {
            rota.append(sign);
        }
    }

    static String line(BoatRota rota, int boat) {
        int length = rota.line(boat);
        String line = View.line(rota);
        same("the length of the line " + line, line.length(), length);
        return line;
    }

    static void end(String test) {
        System.out.println(test + ": " + looked + " answers, " + wrong + " wrong");
        if (wrong != 0 || looked == 0) {
            System.exit(1);
        }
    }
}
