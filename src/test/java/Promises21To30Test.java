/** Promises 21 to 30: the way home, loans, oars, the orders of members, texts and reasons. */
public final class Promises21To30Test {
    private static final String TWO = "member(2) member(0) boat(0,2) ";
    private static final String FIVES =
            "member(2) 4*member(1) member(2) 4*member(1) 2*boat(0,5) ";
    private static final String[] FAR = {"min", "-1", "max"};

    public static void main(String[] args) {
        promises21And22();
        homeFromEveryHour();
        promise23();
        promise24();
        promise25();
        promise26();
        promise27();
        promise28();
        promise29();
        promise30();
        Document.allPromisesTold(21, 30);
        Check.end("Promises21To30Test");
    }

    private static void promises21And22() {
        Document.says("Promise 21", "Returns in how many hours a boat comes in, if only hours go by.");
        home("homeIn");
        Document.says("Promise 21", "boat: the boat");
        Document.says("Promise 21", "Returns how many.");
        boats("homeIn");
        Document.says("Promise 21", "Throws IndexOutOfBoundsException if there is no such boat");
        noSuchBoat("homeIn");
        Document.says("Promise 21", "Throws NoSuchElementException if it is not out");
        notOut("homeIn");
        Document.says("Promise 22", "Returns the same by a second way: by the hours that it has"
                + " left, and the tide alone.");
        home("homeInAgain");
        Document.says("Promise 22", "boat: the boat");
        Document.says("Promise 22", "Returns how many.");
        boats("homeInAgain");
        Document.says("Promise 22", "Throws IndexOutOfBoundsException if there is no such boat");
        noSuchBoat("homeInAgain");
        Document.says("Promise 22", "Throws NoSuchElementException if it is not out");
        notOut("homeInAgain");
    }

    private static void home(String name) {
        Run.run(TWO + "call(0,1) " + name + "(0)=1");
        Run.run(TWO + "call(0,9) " + name + "(0)=9 pass(7) " + name + "(0)=2 pass(1) " + name
                + "(0)=1 pass(1)=1");
        // The last hour is at the boat's draft, then 1 below it, when the tide falls.
        String deep = "member(2) member(0) boat(5,2) pass(5) ";
        Run.run(deep + "call(0,2) " + name + "(0)=2");
        Run.run(deep + "call(0,3) " + name + "(0)=12 pass(3) boatOf(0,3)=0 " + name + "(0)=9 pass(8)",
                name + "(0)=1 pass(1)=1");
        // It goes an hour before the water is high enough again.
        Run.run("member(2) member(0) boat(1,2) pass(11) call(0,1) " + name + "(0)=2 pass(1)",
                "boatOf(0,3)=0 " + name + "(0)=1 pass(1)=1");
        Run.run("member(2) member(0) boat(1,2) pass(11) call(0,2) " + name + "(0)=2");
        Run.run("member(2) member(0) boat(6,2) pass(6) call(0,1) " + name + "(0)=12 pass(1)",
                name + "(0)=11 undo() undo() call(0,9) " + name + "(0)=12");
        Run.leaves(TWO + "leave(9)=Unsupported call(0,4) line(0) text(m1)", name + "(0)");
    }

    private static void boats(String name) {
        Run.run("3*member(0) 3*member(2) boat(0,2) boat(1,2) boat(3,2) pass(3) call(0,2) call(1,9)",
                "call(2,8) " + name + "(0)=2 " + name + "(1)=10 " + name + "(2)=12");
    }

    private static void noSuchBoat(String name) {
        Run.fails("", name + "(0)", "IndexOutOfBounds");
        Run.fails(TWO + "call(0,9)", name + "(1)", "IndexOutOfBounds");
        Run.fails("3*boat(0,2)", name + "(3)", "IndexOutOfBounds");
        for (String far : FAR) {
            Run.fails(TWO + "call(0,9)", name + "(" + far + ")", "IndexOutOfBounds");
        }
    }

    private static void notOut(String name) {
        Run.fails(TWO, name + "(0)", "NoSuchElement");
        Run.fails(TWO + "boat(0,2) call(1,9)", name + "(0)", "NoSuchElement");
        Run.fails(TWO + "call(0,1) pass(1)", name + "(0)", "NoSuchElement");
        Run.fails(TWO + "call(0,1) undo()", name + "(0)", "NoSuchElement");
        Run.run("member(2) member(0) boat(6,2) pass(6) call(0,1) pass(11)", name + "(0)=1");
    }

    /** Both ways, and what comes to pass, from every hour, with every draft and length. */
    private static void homeFromEveryHour() {
        Document.says("Promise 22", "Returns the same by a second way");
        for (int draft = 0; draft <= 6; draft++) {
            for (int hour = draft; hour <= 12 - draft; hour++) {
                for (int hours = 1; hours <= 9; hours++) {
                    String rota = "member(2) member(0) boat(" + draft + ",2) pass(12) "
                            + "pass(" + (hour == 0 ? 12 : hour) + ") call(0," + hours + ") ";
                    int due = hours;
                    while (6 - Math.abs(6 - (hour + due) % 12) < draft) {
                        due++;
                    }
                    Run.run(rota + "homeIn(0)=" + due + " homeInAgain(0)=" + due
                            + (due > 1 ? " pass(" + (due - 1) + ")=0" : "") + " homeIn(0)=1"
                            + " homeInAgain(0)=1 pass(1)=1");
                }
            }
        }
    }

    private static void promise23() {
        String rota = FIVES + "borrow(3,2) borrow(9,48) call(0,9) call(1,9) ";
        Document.says("Promise 23", "Returns a number of a loan.");
        Document.says("Promise 23", "Returns the number.");
        Run.run("borrow(3,2) loanOf(0,0)=3 loanOf(0,1)=2 loanOf(0,2)=0");
        Document.says("Promise 23", "loan: the loan");
        Run.run("loanOf(0,0)=IndexOutOfBounds borrow(1,9) borrow(2,9) borrow(3,9) borrow(4,9)",
                "loanOf(0,0)=1 loanOf(1,0)=2 loanOf(2,0)=3 loanOf(3,0)=4 loanOf(4,0)=IndexOutOfBounds");
        Document.says("Promise 23", "what: 0 for its oars,");
        Run.run("borrow(1,9) borrow(9,9) loanOf(0,0)=1 loanOf(1,0)=9");
        Document.says("Promise 23", "1 for the hours until it is due,");
        Run.run("borrow(1,48) loanOf(0,1)=48 pass(1) loanOf(0,1)=47 pass(46) loanOf(0,1)=1 pass(1)",
                "account(5)=0");
        Run.run(FIVES + "borrow(2,2) call(0,9) call(1,9) pass(1) loanOf(0,1)=1 pass(1) loanOf(0,1)=0",
                "pass(1) loanOf(0,1)=0");
        Document.says("Promise 23", "2 for the hours for which it is late");
        Run.run(FIVES + "borrow(2,2) call(0,9) call(1,9) pass(1) loanOf(0,2)=0 pass(1) loanOf(0,2)=1",
                "pass(1) loanOf(0,2)=2 borrow(1,1) loanOf(1,2)=0 pass(1) loanOf(0,2)=3 account(5)=1");
        // A later loan takes its late hours along to the number before.
        Run.run(FIVES + "borrow(1,2) borrow(1,1) call(0,9) call(1,9) free()=0 pass(1) loanOf(0,2)=0",
                "loanOf(1,2)=1 pass(1) loanOf(0,2)=1 loanOf(1,2)=2 borrow(1,9) giveBack(0)=0",
                "loanOf(0,1)=0 loanOf(0,2)=2 loanOf(1,1)=9 loanOf(1,2)=0");
        Document.says("Promise 23", "Throws IndexOutOfBoundsException if there is no such loan");
        Run.fails("", "loanOf(0,0)", "IndexOutOfBounds");
        Run.fails(rota, "loanOf(2,2)", "IndexOutOfBounds");
        Run.fails("4*borrow(1,9)", "loanOf(4,0)", "IndexOutOfBounds");
        Run.fails("borrow(1,9) giveBack(0)", "loanOf(0,0)", "IndexOutOfBounds");
        for (String far : FAR) {
            Run.fails(rota, "loanOf(" + far + ",0)", "IndexOutOfBounds");
        }
        Run.fails(rota, "loanOf(2,3)", "IndexOutOfBounds");
        Document.says("Promise 23", "Throws IllegalArgumentException if what is not from 0 to 2");
        Run.fails(rota, "loanOf(0,3)", "IllegalArgument");
        for (String far : FAR) {
            Run.fails(rota, "loanOf(1," + far + ")", "IllegalArgument");
        }
    }

    private static void promise24() {
        Document.says("Promise 24", "Returns how many oars are free.");
        Document.says("Promise 24", "Returns how many.");
        Run.run(FIVES + "boat(0,2) free()=6 call(0,2) free()=2 borrow(2,9) free()=4 call(1,1) free()=0",
                "pass(1) free()=4 pass(1) free()=8 giveBack(0) free()=6");
        Run.run("4*borrow(9,9) free()=42");
        Run.run("2*member(1) member(2) 3*member(1) boat(0,6) call(0,9) free()=1");
    }

    private static void promise25() {
        Document.says("Promise 25", "Returns a member who is not gone, by its weariness: the least"
                + " weary first, of several the one with the greater skill, of these the lowest.");
        Run.run("member(0) member(2) member(1) member(0) member(2) member(1) places(least)=142503");
        String rota = "member(0) member(2) member(1) member(0) member(2) member(1) boat(0,2) "
                + "call(0,1) pass(1) ";
        // 1 is as weary as 2, and 0 as 1: the weary come last, whatever their skill.
        Run.run(rota + "places(least)=425301 pass(1) places(least)=425031 pass(1) places(least)=142503");
        Run.run(rota + "leave(2) leave(0) places(least)=4531 call(0,9) places(least)=4531 pass(1)",
                "places(least)=5134");
        Run.run("member(2) 2*member(0) boat(0,2) call(0,2) pass(2) pass(2) memberOf(0,2)=2",
                "memberOf(1,2)=0 places(least)=120 leave(0) places(least)=12 leave(2) places(least)=1");
        Run.run("member(0) member(1) member(2) train(0) places(least)=201 train(1) places(least)=120");
        Document.says("Promise 25", "place: the place in this order, from 0");
        Run.run("10*member(1) least(0)=0 least(1)=1 least(8)=8 least(9)=9 least(10)=NoSuchElement");
        Run.run("10*member(1) leave(0) least(0)=1 least(8)=9 least(9)=NoSuchElement");
        Document.says("Promise 25", "Returns the member.");
        Run.run("member(0) member(1) least(0)=1 least(1)=0");
        Document.says("Promise 25", "Throws NoSuchElementException if there is no such place");
        Run.fails("", "least(0)", "NoSuchElement");
        Run.fails(TWO, "least(2)", "NoSuchElement");
        Run.fails(TWO + "leave(0)", "least(1)", "NoSuchElement");
        Run.fails(TWO + "leave(0) leave(1)", "least(0)", "NoSuchElement");
        Run.fails("10*member(0)", "least(10)", "NoSuchElement");
        for (String far : FAR) {
            Run.fails(TWO, "least(" + far + ")", "NoSuchElement");
        }
    }

    private static void promise26() {
        Document.says("Promise 26", "Returns a member, gone ones too, by its hours out so far: the"
                + " most first, of several the one that was called out more often, of these the"
                + " lowest.");
        Run.run("5*member(1) places(busiest)=01234");
        String rota = "3*member(0) 2*member(2) boat(0,2) ";
        // Called out, but without an hour yet.
        Run.run(rota + "call(0,2) places(busiest)=03124");
        Run.run(rota + "call(0,2) pass(2) call(0,3) pass(2) places(busiest)=01342 pass(1)",
                "places(busiest)=14032");
        Run.run(rota + "call(0,2) pass(2) leave(0) leave(3) places(busiest)=03124");
        // 2 and 3 have the two hours of 0 and 1 in two call-outs.
        String often = "member(2) member(0) boat(0,2) call(0,2) pass(2) leave(0) leave(1) member(2) "
                + "member(0) call(0,1) pass(1) ";
        Run.run(often + "places(busiest)=0123 call(0,1) places(busiest)=0123 pass(1)",
                "places(busiest)=2301 memberOf(0,5)=2 memberOf(2,5)=2 memberOf(2,6)=2");
        Document.says("Promise 26", "place: the place in this order, from 0");
        Run.run("10*member(1) busiest(0)=0 busiest(1)=1 busiest(9)=9 busiest(10)=NoSuchElement");
        Run.run("10*member(1) leave(0) busiest(0)=0 busiest(9)=9 busiest(10)=NoSuchElement");
        Document.says("Promise 26", "Returns the member.");
        Run.run("member(0) member(2) member(2) boat(0,2) leave(0) call(0,1) busiest(0)=1",
                "busiest(1)=2 busiest(2)=0");
        Document.says("Promise 26", "Throws NoSuchElementException if there is no such place");
        Run.fails("", "busiest(0)", "NoSuchElement");
        Run.fails(TWO, "busiest(2)", "NoSuchElement");
        Run.fails(TWO + "leave(0)", "busiest(2)", "NoSuchElement");
        Run.fails("10*member(0)", "busiest(10)", "NoSuchElement");
        for (String far : FAR) {
            Run.fails(TWO, "busiest(" + far + ")", "NoSuchElement");
        }
    }

    private static void promise27() {
        Document.says("Promise 27", "Appends a character to the text buffer.");
        Run.run("append(m) append(1) commands()=1 account(1)=1 memberOf(0,0)=1");
        Run.run("append(t) append(1) append(2) commands()=1 account(0)=12");
        Document.says("Promise 27", "character: the character");
        Run.run("append(#0)=1 append(#255)=2 append(#256)=3 append(#65535)=4 append(;)=5 account(12)=5");
        Document.says("Promise 27", "Returns the new length of the buffer.");
        Run.run("append(m)=1 append(1)=2 append(;)=3 append(m)=4 append(1)=5 commands() append(m)=1");
        Run.run("text(" + "t".repeat(58) + ")=58 append(t)=59 append(t)=60 append(t)=IllegalState",
                "account(12)=60");
        Document.says("Promise 27", "Throws IllegalStateException if the buffer contains 60 characters");
        String full = "t11;".repeat(14) + "t111";
        Run.run("text(" + full.substring(0, 59) + ")=59 append(1)=60");
        Run.fails("text(" + full + ")", "append(1)", "IllegalState");
        Run.run("text(" + full + ")=60 append(1)=IllegalState commands()=IllegalArgument",
                "faultPosition()=59 append(t)=1");
        Run.run("text(t1;t1;" + "t11;".repeat(13) + "t1)=60 append(1)=IllegalState commands()=16",
                "account(0)=146 append(t)=1");
    }

    private static void promise28() {
        Document.says("Promise 28", "Carries out the commands in the text buffer, one after the other;");
        Run.run("text(m2;m0;b02;c02;t2) commands()=5 account(0)=2 account(8)=1 memberOf(0,2)=4");
        Run.alike("text(m2;m0;b02;c02;t2) commands()", "member(2) member(0) boat(0,2) call(0,2) pass(2)",
                "undo");
        Document.says("Promise 28", "if one is refused, none is carried out.");
        Run.refusedText("", "x0;m2", 0, 3, 0);
        Run.refusedText("", "m2;m0;b02;c02;t2;x0;x0", 6, 4, 0);
        Run.refusedText(TWO + "save() call(0,3) line(0)", "t3;o99;l20;u1;b66;c11", 5, 7, 3);
        Run.refusedText("8*pass(1)", "t1;t0", 1, 1, 0);
        Document.says("Promise 28", "The buffer is empty afterwards, also if an exception is thrown.");
        Run.run("text(m1)=2 commands()=1 account(12)=0 commands()=IllegalArgument account(12)=0");
        Run.run("text(m1;)=3 commands()=IllegalArgument account(12)=0 text(m1)=2 commands()=1");
        Run.run("text(x0)=2 commands()=Unsupported account(12)=0 text(m1)=2 commands()=1");
        Document.says("Promise 28", "Returns the number of commands.");
        Run.run("text(t1) commands()=1 text(t1;t2) commands()=2 text(t1;t2;t3) commands()=3");
        Run.run("text(" + "m0;".repeat(9) + "m0) commands()=10 account(1)=10");
        Run.run("text(" + "t1;".repeat(18) + "t1) commands()=19");
        Run.run("text(" + "t1;".repeat(19) + "t1) commands()=20 account(11)=1 undo()=0 account(0)=0");
        Document.says("Promise 28", "Throws IllegalArgumentException if the text has a fault");
        Run.faulty("", "", 0);
        Run.faulty(TWO, "m1;m", 4);
        Run.faulty(TWO, "m1;m1;", 6);
        Run.faulty(TWO, "x9;x9x", 5);
        Document.says("Promise 28", "Throws UnsupportedOperationException if it is refused for the"
                + " reason 12; the reason is kept");
        Run.refusedText("10*member(0)", "m3", 0, 1, 0);
        Run.refusedText("10*member(0)", "m2", 0, 2, 10);
        Run.refusedText("9*member(0)", "m2;m2", 1, 2, 10);
        Run.refusedText("2*boat(0,2)", "b66;b66", 1, 2, 3);
        Run.refusedText("2*boat(0,2)", "b66;b76", 1, 1, 0);
        Run.refusedText("3*borrow(1,9)", "o948;o948", 1, 2, 4);
        Run.refusedText("3*borrow(1,9)", "g3", 0, 3, 3);
        Run.refusedText("3*borrow(1,9)", "g2;g2", 1, 3, 2);
        Run.refusedText(TWO, "l9;l9", 1, 6, 0);
        Run.refusedText(TWO, "c02;t1;u1", 2, 5, 0);
    }

    private static void promise29() {
        Document.says("Promise 29",
                "Returns the fault position of the text of the latest call of commands.");
        Run.run("text(m1;q) commands()=IllegalArgument faultPosition()=3 text(m) faultPosition()=3",
                "commands()=IllegalArgument faultPosition()=1 commands()=IllegalArgument",
                "faultPosition()=0 member(0) undo() faultPosition()=0");
        Run.run("text(" + "q".repeat(60) + ") commands()=IllegalArgument faultPosition()=0");
        Run.run("text(" + "t1;".repeat(20) + ") commands()=IllegalArgument faultPosition()=60");
        Run.run("text(" + "t1;".repeat(19) + "t1q) commands()=IllegalArgument faultPosition()=59");
        Document.says("Promise 29", "Returns the fault position, or -1 if that text had no fault or"
                + " there was no such call.");
        Run.run("faultPosition()=-1 text(q) faultPosition()=-1 commands()=IllegalArgument",
                "faultPosition()=0 text(m1) commands()=1 faultPosition()=-1");
        Run.run("text(q) commands()=IllegalArgument text(m3) commands()=Unsupported faultPosition()=-1");
    }

    private static void promise30() {
        Document.says("Promise 30",
                "Returns the reason that is kept, its cause, or the detail of one of both.");
        Document.says("Promise 30", "isCause: true for the cause");
        Document.says("Promise 30", "isDetail: true for the detail");
        Document.says("Promise 30", "Returns the reason or the detail.");
        Run.run("text(m0;x7) commands()=Unsupported reason(false,false)=12 reason(false,true)=1",
                "reason(true,false)=3 reason(true,true)=7");
        Run.run("leave(-5)=Unsupported reason(false,false)=3 reason(false,true)=-5");
        Run.run("boat(6,2) call(0,1)=Unsupported reason(false,false)=7 reason(false,true)=6 pass(1)",
                "call(0,1)=Unsupported reason(false,false)=7 reason(false,true)=5");
        Document.says("Promise 30",
                "Throws NoSuchElementException if nothing was refused, or there is no cause");
        String none = "reason(false,false)=NoSuchElement reason(false,true)=NoSuchElement ";
        Run.run(none, Run.noCause());
        Run.run("text(q) commands()=IllegalArgument undo()=IllegalState crew(0)=IndexOutOfBounds",
                "boat(6,2) wouldRefuse(0)=7 wouldGo(0)=NoSuchElement callableIn(0)=NoSuchElement",
                none, Run.noCause());
        Run.run("member(3)=Unsupported", Run.kept(1, 0), Run.noCause());
        Run.run("text(m3) commands()=Unsupported", Run.kept(12, 0), "reason(true,false)=1",
                "reason(true,true)=0 leave(0)=Unsupported", Run.kept(3, 0), Run.noCause());
        for (String call : new String[] {"true,false", "true,true", "false,false", "false,true"}) {
            Run.fails(TWO + "text(m1)", "reason(" + call + ")", "NoSuchElement");
        }
        Run.fails(TWO + "leave(4)=Unsupported", "reason(true,false)", "NoSuchElement");
        Run.fails(TWO + "leave(4)=Unsupported", "reason(true,true)", "NoSuchElement");
    }
}
