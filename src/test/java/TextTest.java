import java.util.NoSuchElementException;

/** Promises 27 to 32: texts of commands, their faults, reasons with causes, and the line. */
public final class TextTest {
    public static void main(String[] args) {
        promise27Append();
        promise28Commands();
        promise28AllOrNone();
        promise28EveryReason();
        promise29FaultPosition();
        promise29EveryText();
        promise30Reason();
        promises31And32Line();
        Check.end("TextTest");
    }

    private static void promise27Append() {
        BoatRota rota = new BoatRota();
        for (int k = 1; k <= 60; k++) {
            Check.same("append", k, rota.append('m'));
        }
        Check.same("the characters", 60, rota.account(12));
        Check.fails("the sixty-first", rota, IllegalStateException.class, () -> rota.append('m'));
        faulty(rota, 1);
        Check.same("again the first", 1, rota.append((char) 0xffff));
        faulty(rota, 0);
    }

    /** The text in the buffer has a fault there, and all else stays as it is. */
    private static void faulty(BoatRota rota, int position) {
        String before = View.changing(rota);
        Check.same("commands throws", IllegalArgumentException.class.getName(),
                Check.thrown(rota::commands));
        Check.same("the fault position", position, rota.faultPosition());
        Check.same("the buffer is empty", 0, rota.account(12));
        Check.same("a text with a fault changes nothing", before, View.changing(rota));
    }

    private static int carriedOut(BoatRota rota, String text) {
        Check.write(rota, text);
        int count = rota.commands();
        Check.same(text + ": no fault", -1, rota.faultPosition());
        Check.same(text + ": the buffer is empty", 0, rota.account(12));
        return count;
    }

    private static void promise28Commands() {
        BoatRota rota = new BoatRota();
        Check.same("one", 1, carriedOut(rota, "m2"));
        Check.same("its skill", 2, rota.memberOf(0, 0));
        Check.same("a change", 1, rota.account(11));
        Check.same("five", 5, carriedOut(rota, "m0;m1;m1;u1;x3"));
        Check.same("one change more", 2, rota.account(11));
        Check.same("trained", 1, rota.memberOf(1, 0));
        Check.same("gone", 2, rota.memberOf(3, 1));
        Check.same("boats and oars", 4, carriedOut(rota, "b02;b43;o912;o21"));
        Check.same("a draft", 4, rota.boatOf(1, 0));
        Check.same("its seats", 3, rota.boatOf(1, 1));
        Check.same("oars", 9, rota.loanOf(0, 0));
        Check.same("hours of two digits", 12, rota.loanOf(0, 1));
        Check.same("hours of one digit", 1, rota.loanOf(1, 1));
        Check.same("a call-out, and the others", 4, carriedOut(rota, "c03;g0;l19;t1"));
        Check.same("out", 0b011, rota.crew(0));
        Check.same("hours left", 2, rota.boatOf(0, 3));
        Check.same("the loans are back", 0, rota.account(5));
        Check.same("the limit", 19, rota.account(10));
        Check.same("two digits, the first of them 0", 2, carriedOut(rota, "t02;l07"));
        Check.same("the hour", 3, rota.account(0));
        Check.same("the limit", 7, rota.account(10));
        Check.same("undo undoes a whole text", 4, rota.undo());
        Check.same("the hour before", 1, rota.account(0));
        Check.same("the limit before", 19, rota.account(10));
        Check.same("the most commands", 20, carriedOut(rota,
                "t1;t2;t1;t2;t1;t2;t1;t2;t1;t2;t1;t2;t1;t2;t1;t2;t1;t2;t1;t2"));
        Check.same("the hours add up", 31, rota.account(0));
        Check.same("sixty characters", 19, carriedOut(rota,
                "t11;t11;t11;t1;t1;t1;t1;t1;t1;t1;t1;t1;t1;t1;t1;t1;t1;t1;t11"));
        Check.same("nothing was refused", NoSuchElementException.class.getName(),
                Check.thrown(() -> rota.reason(false, false)));
    }

    private static void promise28AllOrNone() {
        BoatRota rota = new BoatRota();
        carriedOut(rota, "m2;m0;b02");
        rota.line(0);
        rota.save();
        refusedAt(rota, "c01;t3;m1;x5;t1", 3, 3, 5);
        refusedAt(rota, "c09;t2;u1", 2, 5, 0);
        refusedAt(rota, "l3;l9;o19;m7", 3, 1, 0);
        Check.same("the undo of the text before", 0, rota.undo());
        Check.same("nothing is there", 0, rota.account(1));
        refusedAt(rota, "x0", 0, 3, 0);
        for (int k = 0; k < 9; k++) {
            rota.pass(1);
        }
        refusedAt(rota, "t1;t0", 1, 1, 0);
        Check.same("a refused text is no change", 7, rota.undo());
        Check.same("the hour", 8, rota.account(0));
    }

    /** The text is refused for the reason 12, and all stays but the reason and the buffer. */
    private static void refusedAt(BoatRota rota, String text, int index, int cause, int detail) {
        String before = View.changing(rota) + rota.account(11) + View.line(rota);
        Check.write(rota, text);
        Check.same(text + " throws", UnsupportedOperationException.class.getName(),
                Check.thrown(rota::commands));
        Check.same(text + " has no fault", -1, rota.faultPosition());
        Check.same(text + ": the buffer is empty", 0, rota.account(12));
        Check.same(text + " changes nothing", before,
                View.changing(rota) + rota.account(11) + View.line(rota));
        Check.same(text + ": the reason", 12, rota.reason(false, false));
        Check.same(text + ": its index", index, rota.reason(false, true));
        Check.same(text + ": the cause", cause, rota.reason(true, false));
        Check.same(text + ": its detail", detail, rota.reason(true, true));
    }

    private static void promise28EveryReason() {
        BoatRota rota = new BoatRota();
        carriedOut(rota, "m2;m0;m0;m0;x3;b22;b05;t2");
        refusedAt(rota, "m3", 0, 1, 0);
        refusedAt(rota, "m0;m0;m0;m0;m0;m0;m0", 6, 2, 10);
        refusedAt(rota, "x9", 0, 3, 9);
        refusedAt(rota, "x3", 0, 4, 0);
        refusedAt(rota, "c01;x0", 1, 5, 0);
        refusedAt(rota, "u3", 0, 4, 0);
        refusedAt(rota, "u1;u1;u1", 2, 6, 0);
        refusedAt(rota, "b72", 0, 1, 0);
        refusedAt(rota, "b02;b02", 1, 2, 3);
        refusedAt(rota, "c21", 0, 3, 2);
        refusedAt(rota, "c00", 0, 1, 0);
        refusedAt(rota, "t10;c01", 1, 7, 2);
        refusedAt(rota, "x0;c01", 1, 8, 0);
        refusedAt(rota, "c11", 0, 9, 2);
        refusedAt(rota, "m0;m0;c11", 2, 10, 2);
        refusedAt(rota, "o01", 0, 1, 0);
        refusedAt(rota, "o149", 0, 1, 0);
        refusedAt(rota, "o148;o11;o11;o11;o11", 4, 2, 4);
        refusedAt(rota, "g4", 0, 3, 4);
        refusedAt(rota, "l21", 0, 1, 0);
        refusedAt(rota, "l8", 0, 6, 0);
        refusedAt(rota, "t00", 0, 1, 0);
        refusedAt(rota, "m1;m1;m1;m2;m0;m0;b04;c19;c29", 8, 11, 1);
        refusedAt(rota, "o91;m1;m1;m1;m2;m0;m0;b05;c19;c21;g0", 9, 9, 1);
        refusedAt(rota, "o41;m1;m1;m1;m2;m0;m0;b04;c19;c29;g0", 10, 11, 1);
    }

    private static void promise29FaultPosition() {
        BoatRota rota = new BoatRota();
        Check.same("no call yet", -1, rota.faultPosition());
        Check.write(rota, "m");
        Check.same("a text alone is no call", -1, rota.faultPosition());
        faulty(rota, 1);
        // Now the text is empty.
        faulty(rota, 0);
        Check.write(rota, "t1;");
        faulty(rota, 3);
        Check.same("no reason is kept", NoSuchElementException.class.getName(),
                Check.thrown(() -> rota.reason(false, false)));
        carriedOut(rota, "m0");
        Check.write(rota, "m0m");
        faulty(rota, 2);
        rota.member(0);
        Check.same("until the next call of commands", 2, rota.faultPosition());
        rota.undo();
        rota.save();
        rota.restore();
        Check.same("it belongs to no change", 2, rota.faultPosition());
        refusedAt(rota, "t0", 0, 1, 0);
    }

    /** Every kind of command with every kind of fault. */
    private static void promise29EveryText() {
        BoatRota rota = new BoatRota();
        String[] wrong = {";", " m1", "M1", "n1", "mm", "m;", "m-1", "m1 ", "m11", "m1;;",
            "m1;m1;y", "x", "xx", "x11", "u", "uu", "u11", "b", "b;", "bb", "b1", "b1;", "b1b",
            "b123", "c", "c1", "c1,", "c123", "o", "oo", "o1", "o1;", "o1o", "o123o", "o1234",
            "g", "gg", "g11", "l", "l;", "ll", "l1l", "l12l", "l123", "t", "t;", "tt", "t1t",
            "t12t", "t123", "t1;t12;b12;t", "m\u0661", "m1;\u00e9", "1", "/", "m:", "m/"};
        int[] due = {0, 0, 0, 0, 1, 1, 1, 2, 2, 3,
            6, 1, 1, 2, 1, 1, 2, 1, 1, 1, 2, 2, 2,
            3, 1, 2, 2, 3, 1, 1, 2, 2, 2, 4, 4,
            1, 1, 2, 1, 1, 1, 2, 3, 3, 1, 1, 1, 2,
            3, 3, 12, 1, 3, 0, 0, 1, 1};
        Check.same("as many positions as texts", wrong.length, due.length);
        for (int k = 0; k < wrong.length; k++) {
            Check.write(rota, wrong[k]);
            Check.thrown(rota::commands);
            Check.same("the fault of " + wrong[k], due[k], rota.faultPosition());
        }
        String full = "m1;m1;m1;m1;m1;m1;m1;m1;m1;m1;m1;m1;m1;m1;m1;m1;m1;m1;m1;m1;";
        Check.write(rota, full);
        faulty(rota, 60);
        Check.same("nothing was carried out", 0, rota.account(1));
    }

    private static void promise30Reason() {
        BoatRota rota = new BoatRota();
        Class<?> none = NoSuchElementException.class;
        for (int k = 0; k < 4; k++) {
            boolean isCause = k >= 2;
            boolean isDetail = k % 2 == 1;
            Check.fails("nothing was refused", rota, none, () -> rota.reason(isCause, isDetail));
        }
        Check.thrown(() -> rota.leave(7));
        Check.same("the reason", 3, rota.reason(false, false));
        Check.same("its detail", 7, rota.reason(false, true));
        Check.fails("no cause", rota, none, () -> rota.reason(true, false));
        Check.fails("no detail of it", rota, none, () -> rota.reason(true, true));
        rota.member(2);
        Check.same("a call that is not refused keeps it", 3, rota.reason(false, false));
        refusedAt(rota, "m0;g8", 1, 3, 8);
        Check.write(rota, "m");
        Check.thrown(rota::commands);
        Check.same("a fault keeps it", 12, rota.reason(false, false));
        rota.undo();
        rota.save();
        rota.restore();
        Check.same("undo and restore keep it", 12, rota.reason(false, false));
        Check.same("with its cause", 3, rota.reason(true, false));
        Check.same("and that one's detail", 8, rota.reason(true, true));
        Check.refused("the next has no cause", rota, 1, 0, () -> rota.pass(0));
    }

    private static void promises31And32Line() {
        BoatRota rota = new BoatRota();
        Class<?> none = IndexOutOfBoundsException.class;
        Check.fails("the line is empty at first", rota, none, () -> rota.character(0));
        Check.fails("line(0)", rota, none, () -> rota.line(0));
        int[] skills = {1, 1, 2, 0, 0, 0, 0, 2, 0, 1};
        for (int skill : skills) {
            rota.member(skill);
        }
        rota.boat(0, 2);
        rota.boat(3, 4);
        Check.same("ashore", "0d0s2", Check.line(rota, 0));
        rota.pass(3);
        rota.call(1, 2);
        Check.same("out", "1d3s4:012*3+2", Check.line(rota, 1));
        rota.call(0, 9);
        Check.same("another", "0d0s2:47*+9", Check.line(rota, 0));
        Check.fails("character(-1)", rota, none, () -> rota.character(-1));
        Check.fails("character(11)", rota, none, () -> rota.character(11));
        Check.same("the last character", '9', rota.character(10));
        Check.fails("line(-1)", rota, none, () -> rota.line(-1));
        Check.fails("line(2)", rota, none, () -> rota.line(2));
        rota.pass(1);
        Check.same("the line stays", "0d0s2:47*+9", View.line(rota));
        rota.undo();
        rota.undo();
        Check.same("also if that is undone", "0d0s2:47*+9", View.line(rota));
        Check.same("written again", "0d0s2", Check.line(rota, 0));
        theExample();
    }

    private static void theExample() {
        BoatRota rota = new BoatRota();
        int[] skills = {0, 0, 2, 1, 0, 1, 0, 0};
        for (int skill : skills) {
            rota.member(skill);
        }
        rota.boat(6, 2);
        rota.boat(3, 4);
        rota.leave(1);
        rota.leave(3);
        rota.leave(4);
        rota.pass(3);
        rota.call(1, 2);
        Check.same("as in the document", "1d3s4:02*56+2", Check.line(rota, 1));
        rota.pass(1);
        Check.same("an hour later", "1d3s4:02*56+1", Check.line(rota, 1));
        rota.pass(1);
        Check.same("at home", "1d3s4", Check.line(rota, 1));
    }
}
