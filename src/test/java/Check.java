/** What the tests share: they compare, print what is wrong, and end with code 1 if anything was. */
final class Check {
    private static int wrong = 0;
    private static int looked = 0;

    private Check() {
    }

    static void same(String what, long due, long got) {
        looked++;
        if (due != got) {
            fail(what + " answered " + got + ", due is " + due);
        }
    }

    static void same(String what, String due, String got) {
        looked++;
        if (!due.equals(got)) {
            fail(what + " answered\n  " + got + ", due is\n  " + due);
        }
    }

    static void fail(String text) {
        wrong++;
        if (wrong <= 40) {
            System.out.println(Document.latest() + text);
        }
    }

    static void end(String test) {
        System.out.println(test + ": " + looked + " answers, " + wrong + " wrong");
        if (wrong != 0 || looked == 0) {
            System.exit(1);
        }
    }
}
