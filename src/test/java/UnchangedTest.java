import java.util.ArrayList;
import java.util.List;

/**
 * What a call that throws, or is refused, leaves: the words "Exceptions", "Reasons" and "Changes"
 * of "Terms", whatever was kept, saved, written or appended before it.
 */
public final class UnchangedTest {
    /** The boat 0 is out with 0 to 4, the member 9 is gone, and there are as many as can be. */
    private static final String FULL = "member(2) 4*member(1) member(2) member(1) 3*member(0) "
            + "2*boat(0,5) boat(6,2) 4*borrow(1,20) call(0,9) pass(1) leave(9) limit(9) ";
    /** The same, but nobody is gone. */
    private static final String ALL_HERE = FULL.replace("leave(9) ", "");
    private static final String FIVES =
            "member(2) 4*member(1) member(2) 4*member(1) 2*boat(0,5) borrow(2,1) ";
    /** No boat can go, whatever hours go by. */
    private static final String NOBODY = "8*pass(3) boat(0,2) ";

    private static final String[] KEPT = {"", "leave(77)=Unsupported ",
        "text(t1;g9) commands()=Unsupported "};
    private static final String[] FAULT = {"", "text(t1;q) commands()=IllegalArgument "};
    private static final String[] WRITTEN = {"", "line(0) "};
    private static final String[] APPENDED = {"", "text(t1;l3) ",
        "text(" + "t1;".repeat(19) + "t23) "};

    /** No snapshot, one of the empty station, one of this, and one that ended all undoing. */
    private static final int NOT_SAVED = 0;
    private static final int SAVED_FIRST = 1;
    private static final int SAVED_LAST = 2;
    private static final int RESTORED = 3;
    /** No divisor of their number, so that a few of them for each call differ in everything. */
    private static final int STEP = 7;

    private record Before(int kept, int saved, int fault, int written, int appended) {
        String on(String station) {
            return (saved == SAVED_FIRST ? "save() " : "") + station
                    + (saved == SAVED_LAST ? "save() " : "")
                    + (saved == RESTORED ? "save() restore() " : "")
                    + KEPT[kept] + FAULT[fault] + WRITTEN[written] + APPENDED[appended];
        }

        boolean isFull() {
            return appended == 2;
        }
    }

    private static final List<Before> BEFORE = before();
    private static int latest = 0;

    public static void main(String[] args) {
        Document.says("Exceptions", "A call that throws an exception leaves the state unchanged,");
        onTheStation();
        onTheCrew();
        onWhatWasBefore();
        Document.says("Reasons", "The reason is kept with its cause.");
        refusedMembersAndBoats();
        refusedCalls();
        refusedLoansAndNumbers();
        texts();
        Document.says("Changes", "The text buffer, the fault position, the reason and the line do"
                + " not belong to it, and stay.");
        undone();
        restored();
        Check.end("UnchangedTest");
    }

    private static List<Before> before() {
        List<Before> all = new ArrayList<>();
        for (int kept = 0; kept < KEPT.length; kept++) {
            for (int saved = NOT_SAVED; saved <= RESTORED; saved++) {
                for (int k = 0; k < FAULT.length * WRITTEN.length * APPENDED.length; k++) {
                    all.add(new Before(kept, saved, k % 2, k / 2 % 2, k / 4));
                }
            }
        }
        return all;
    }

    /** For each call other ones, so that all calls together have them all. */
    private static List<Before> some() {
        List<Before> some = new ArrayList<>();
        for (int k = latest % STEP; k < BEFORE.size(); k += STEP) {
            some.add(BEFORE.get(k));
        }
        latest++;
        return some;
    }

    private static void fails(String station, String call, String exception) {
        for (Before before : some()) {
            Run.fails(before.on(station), call, exception);
        }
    }

    private static void refused(String station, String call, int reason, int detail) {
        for (Before before : some()) {
            Run.refused(before.on(station), call, reason, detail);
        }
    }

    private static void onTheStation() {
        fails(FULL, "height(-1)", "IllegalArgument");
        fails(FULL, "height(100)", "IllegalArgument");
        fails(FULL, "memberOf(10,0)", "IndexOutOfBounds");
        fails(FULL, "memberOf(-1,8)", "IndexOutOfBounds");
        fails(FULL, "memberOf(0,8)", "IllegalArgument");
        fails(FULL, "boatOf(3,0)", "IndexOutOfBounds");
        fails(FULL, "boatOf(-1,7)", "IndexOutOfBounds");
        fails(FULL, "boatOf(0,7)", "IllegalArgument");
        fails(FULL, "loanOf(4,0)", "IndexOutOfBounds");
        fails(FULL, "loanOf(-1,3)", "IndexOutOfBounds");
        fails(FULL, "loanOf(0,3)", "IllegalArgument");
        fails(FULL, "least(9)", "NoSuchElement");
        fails(FULL, "least(-1)", "NoSuchElement");
        fails(FULL, "busiest(10)", "NoSuchElement");
        fails(FULL, "busiest(-1)", "NoSuchElement");
        fails(FULL, "line(3)", "IndexOutOfBounds");
        fails(FULL, "line(-1)", "IndexOutOfBounds");
        fails(FULL, "character(15)", "IndexOutOfBounds");
        fails(FULL, "character(-1)", "IndexOutOfBounds");
        fails(FULL, "account(13)", "IllegalArgument");
        fails(FULL, "account(-1)", "IllegalArgument");
        fails(NOBODY, "meanWeariness()", "Arithmetic");
    }

    private static void onTheCrew() {
        for (String name : new String[] {"crew", "wouldGo", "weariness", "wearinessAgain",
            "wouldRefuse", "callableIn", "homeIn", "homeInAgain"}) {
            fails(FULL, name + "(3)", "IndexOutOfBounds");
            fails(FULL, name + "(-1)", "IndexOutOfBounds");
        }
        for (String name : new String[] {"wouldGo", "weariness", "wearinessAgain"}) {
            fails(FULL + "leave(5) ", name + "(1)", "NoSuchElement");
            fails(FULL, name + "(1)", "NoSuchElement");
            fails(ALL_HERE, name + "(1)", "NoSuchElement");
        }
        fails(NOBODY, "callableIn(0)", "NoSuchElement");
        fails(FULL, "homeIn(1)", "NoSuchElement");
        fails(FULL, "homeInAgain(1)", "NoSuchElement");
    }

    /** These throw for what was kept, saved or appended before. */
    private static void onWhatWasBefore() {
        for (Before before : BEFORE) {
            String given = before.on(FULL);
            if (before.isFull()) {
                Run.fails(given, "append(1)", "IllegalState");
            }
            if (before.kept() == 0) {
                Run.fails(given, "reason(false,false)", "NoSuchElement");
                Run.fails(given, "reason(false,true)", "NoSuchElement");
            }
            if (before.kept() < 2) {
                Run.fails(given, "reason(true,false)", "NoSuchElement");
                Run.fails(given, "reason(true,true)", "NoSuchElement");
            }
            if (before.saved() == NOT_SAVED) {
                Run.fails(given, "restore()", "IllegalState");
            }
            if (before.saved() == RESTORED) {
                Run.fails(given, "undo()", "IllegalState");
            }
        }
    }

    private static void refusedMembersAndBoats() {
        refused(FULL, "member(3)", 1, 0);
        refused(FULL, "member(0)", 2, 10);
        refused(FULL, "leave(10)", 3, 10);
        refused(FULL, "leave(9)", 4, 0);
        refused(FULL, "leave(4)", 5, 0);
        refused(FULL, "train(-1)", 3, -1);
        refused(FULL, "train(9)", 4, 0);
        refused(FULL, "train(4)", 5, 0);
        refused(FULL, "train(5)", 6, 0);
        refused(FULL, "boat(7,2)", 1, 0);
        refused(FULL, "boat(0,7)", 1, 0);
        refused(FULL, "boat(0,2)", 2, 3);
    }

    private static void refusedCalls() {
        refused(FULL, "call(3,1)", 3, 3);
        refused(FULL, "call(1,10)", 1, 0);
        refused(FULL, "call(0,1)", 5, 0);
        refused(FULL, "call(2,1)", 7, 5);
        refused(FULL + "leave(5) ", "call(1,1)", 8, 0);
        refused(FULL, "call(1,1)", 9, 1);
        refused(ALL_HERE, "call(1,1)", 10, 1);
        refused(FIVES + "call(0,9) pass(1) ", "call(1,1)", 11, 2);
    }

    private static void refusedLoansAndNumbers() {
        refused(FULL, "borrow(10,1)", 1, 0);
        refused(FULL, "borrow(1,49)", 1, 0);
        refused(FULL, "borrow(1,1)", 2, 4);
        refused(FULL, "giveBack(4)", 3, 4);
        refused(FIVES + "call(0,9) call(1,9) pass(1) ", "giveBack(0)", 11, 2);
        refused(FULL, "limit(21)", 1, 0);
        refused(FULL, "limit(9)", 6, 0);
        refused(FULL, "pass(0)", 1, 0);
        refused(FULL, "pass(100)", 1, 0);
    }

    /** What was appended before is a part of the text, so the buffer is empty before these. */
    private static void texts() {
        String full = "t1;".repeat(17);
        for (Before before : BEFORE) {
            if (before.appended() != 0) {
                continue;
            }
            String given = before.on(FULL);
            Document.says("Promise 28", "Throws IllegalArgumentException if the text has a fault");
            Run.faulty(given, "", 0);
            Run.faulty(given, "x7;t9;c11;q", 10);
            Run.faulty(given, "x7;u8;", 6);
            Run.faulty(given, full + "x7;x8;t1;", 60);
            Run.faulty(given, full + "x7;x8;t1x", 59);
            Document.says("Promise 28", "Throws UnsupportedOperationException if it is refused for"
                    + " the reason 12; the reason is kept");
            Run.refusedText(given, "x9", 0, 4, 0);
            Run.refusedText(given, "x7;u8;g0;o31;l7;t9;c00", 6, 1, 0);
            Run.refusedText(given, "t9;t9;m0;t9", 2, 2, 10);
            Run.refusedText(given, full + "x7;l2;l02", 19, 6, 0);
        }
    }

    private static void undone() {
        for (Before before : BEFORE) {
            String given = before.on(ALL_HERE);
            for (String change : new String[] {"leave(5)", "train(8)", "giveBack(1)", "limit(20)",
                "pass(30)"}) {
                if (before.saved() == RESTORED) {
                    Run.leaves(given, change + " undo()");
                } else {
                    Run.alike(given, given + change + " undo()", "undo");
                }
            }
        }
    }

    private static void restored() {
        for (Before before : BEFORE) {
            if (before.saved() != NOT_SAVED) {
                String given = before.on(FULL) + "pass(3) ";
                Run.alike(given, given + "restore()", "station", "undo");
                Run.run(given, "restore() account(11)=0 undo()=IllegalState account(0)="
                        + (before.saved() == SAVED_FIRST ? 0 : 1));
            }
        }
    }
}
