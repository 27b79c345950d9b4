/** Promises 1 to 9: the new object, members, boats, call-outs, loans and the limit. */
public final class Promises1To9Test {
    private static final String TWO = "member(2) member(0) boat(0,2) ";
    private static final String FIVES =
            "member(2) 4*member(1) member(2) 4*member(1) 2*boat(0,5) ";
    private static final String[] FAR = {"min", "max"};

    public static void main(String[] args) {
        promise1();
        promise2();
        promise3();
        promise4();
        promise5();
        promise6();
        promise6InOrder();
        promise7();
        promise8();
        promise9();
        Document.allPromisesTold(1, 9);
        Check.end("Promises1To9Test");
    }

    private static void promise1() {
        Document.says("Promise 1", "Creates a station with 6 oars, without members and boats.");
        Run.run("account(0)=0 account(1)=0 account(2)=0 account(3)=0 account(4)=0 account(5)=0",
                "account(6)=6 account(7)=0 account(8)=0 account(9)=0 account(10)=8 account(11)=0",
                "account(12)=0 free()=6 able()=0 outShare()=0.0 height(0)=0 faultPosition()=-1",
                "written()= places(least)= places(busiest)=", Run.noCause(),
                "reason(false,false)=NoSuchElement reason(false,true)=NoSuchElement");
        Run.run("memberOf(0,0)=IndexOutOfBounds boatOf(0,0)=IndexOutOfBounds",
                "loanOf(0,0)=IndexOutOfBounds crew(0)=IndexOutOfBounds line(0)=IndexOutOfBounds",
                "meanWeariness()=Arithmetic undo()=IllegalState restore()=IllegalState");
        BoatRota one = new BoatRota();
        one.member(2);
        one.borrow(9, 9);
        BoatRota other = new BoatRota();
        Check.same("another object's members", 0, other.account(1));
        Check.same("another object's oars", 6, other.free());
        Check.same("the first object's oars", 15, one.free());
    }

    private static void promise2() {
        Document.says("Promise 2", "Lets a member come.");
        Run.run("account(1)=0 member(0) account(1)=1 member(0) account(1)=2 account(2)=0",
                "memberOf(0,1)=0 memberOf(0,2)=0 memberOf(0,3)=-1 memberOf(0,4)=1 memberOf(0,5)=0",
                "memberOf(0,6)=0 memberOf(0,7)=0 account(11)=2");
        Document.says("Promise 2", "skill: its skill");
        Run.run("member(0) member(1) member(2) memberOf(0,0)=0 memberOf(1,0)=1 memberOf(2,0)=2");
        Document.says("Promise 2", "Returns its number.");
        Run.run("member(2)=0 member(0)=1 leave(0) member(1)=2 6*member(0) member(1)=9");
        Document.says("Promise 2", "Throws UnsupportedOperationException if it is refused for the"
                + " reason 1 or 2; the reason is kept");
        Run.refused("", "member(-1)", 1, 0);
        Run.refused("", "member(3)", 1, 0);
        for (String far : FAR) {
            Run.refused("9*member(0)", "member(" + far + ")", 1, 0);
        }
        Run.run("9*member(0) member(2)=9");
        for (int skill = 0; skill <= 2; skill++) {
            Run.refused("10*member(0)", "member(" + skill + ")", 2, 10);
        }
        Run.refused("10*member(0)", "member(-1)", 1, 0);
        Run.refused("10*member(0)", "member(3)", 1, 0);
        Run.refused("10*member(0) leave(0) leave(9)", "member(0)", 2, 10);
        Run.run("10*member(0) member(0)=Unsupported undo()=7 member(2)=9 member(0)=Unsupported");
    }

    private static void promise3() {
        Document.says("Promise 3", "Lets a member go for good.");
        Run.run(TWO + "leave(0) memberOf(0,1)=2 memberOf(0,4)=0 account(2)=1 account(1)=2 able()=2");
        Document.says("Promise 3", "member: the member");
        Run.run("10*member(0) leave(0) able()=1022 leave(9) able()=510 leave(5) able()=478");
        Document.says("Promise 3", "Returns how many members there are then who are not gone.");
        Run.run("10*member(0) leave(3)=9 leave(0)=8");
        Run.run("member(2) leave(0)=0 member(2) leave(1)=0");
        // Those who are out are not gone.
        Run.run(TWO + "member(0) call(0,1) leave(2)=2 pass(1) leave(0)=1 leave(1)=0");
        Document.says("Promise 3", "Throws UnsupportedOperationException if it is refused for the"
                + " reason 3, 4 or 5; the reason is kept");
        Run.refused("", "leave(0)", 3, 0);
        Run.refused(TWO, "leave(-1)", 3, -1);
        Run.refused(TWO, "leave(2)", 3, 2);
        Run.refused("10*member(0)", "leave(10)", 3, 10);
        Run.refused(TWO, "leave(min)", 3, Integer.MIN_VALUE);
        Run.refused(TWO, "leave(max)", 3, Integer.MAX_VALUE);
        Run.refused(TWO + "leave(1)", "leave(1)", 4, 0);
        Run.refused(TWO + "call(0,1)", "leave(0)", 5, 0);
        Run.refused(TWO + "call(0,1)", "leave(1)", 5, 0);
        Run.refused(TWO + "boat(0,2) call(1,1)", "leave(1)", 5, 1);
        Run.run(TWO + "call(0,1) leave(0)=Unsupported pass(1) leave(0)=1");
    }

    private static void promise4() {
        Document.says("Promise 4", "Trains a member, whose skill becomes 1 more.");
        Run.run("member(0) train(0) memberOf(0,0)=1 train(0) memberOf(0,0)=2");
        // Nothing else of it changes.
        Run.run(TWO + "call(0,2) pass(2) train(1) memberOf(1,2)=2 memberOf(1,5)=2 memberOf(1,6)=1");
        Document.says("Promise 4", "member: the member");
        Run.run("10*member(0) train(0) train(9) memberOf(0,0)=1 memberOf(1,0)=0 memberOf(8,0)=0",
                "memberOf(9,0)=1");
        Document.says("Promise 4", "Returns its skill then.");
        Run.run("member(0) train(0)=1 train(0)=2 train(0)=Unsupported member(1) train(1)=2");
        Document.says("Promise 4", "Throws UnsupportedOperationException if it is refused for the"
                + " reason 3, 4, 5 or 6, if it is a coxswain; the reason is kept");
        Run.refused("", "train(0)", 3, 0);
        Run.refused(TWO, "train(-1)", 3, -1);
        Run.refused(TWO, "train(2)", 3, 2);
        Run.refused("10*member(0)", "train(10)", 3, 10);
        Run.refused(TWO, "train(min)", 3, Integer.MIN_VALUE);
        Run.refused(TWO, "train(max)", 3, Integer.MAX_VALUE);
        Run.refused(TWO + "leave(1)", "train(1)", 4, 0);
        Run.refused(TWO + "boat(0,2) call(1,1)", "train(1)", 5, 1);
        Run.refused(TWO, "train(0)", 6, 0);
        Run.refused("member(1) train(0)", "train(0)", 6, 0);
        // Two at once.
        Run.refused(TWO + "leave(0)", "train(0)", 4, 0);
        Run.refused(TWO + "boat(0,2) call(1,1)", "train(0)", 5, 1);
    }

    private static void promise5() {
        Document.says("Promise 5", "Lets a boat come.");
        Run.run("boat(0,2) account(3)=1 account(4)=0 boatOf(0,2)=0 boatOf(0,3)=0 boatOf(0,4)=0",
                "boatOf(0,5)=-1 boatOf(0,6)=0 crew(0)=0 account(11)=1");
        Document.says("Promise 5", "draft: its draft");
        Run.run("boat(0,3) boat(3,3) boat(6,3) boatOf(0,0)=0 boatOf(1,0)=3 boatOf(2,0)=6");
        Document.says("Promise 5", "seats: how many seats it has");
        Run.run("boat(3,2) boat(3,4) boat(3,6) boatOf(0,1)=2 boatOf(1,1)=4 boatOf(2,1)=6");
        Document.says("Promise 5", "Returns its number.");
        Run.run("boat(0,2)=0 boat(0,2)=1 boat(0,2)=2 boat(0,2)=Unsupported");
        Document.says("Promise 5", "Throws UnsupportedOperationException if it is refused for the"
                + " reason 1 or 2; the reason is kept");
        Run.refused("", "boat(-1,2)", 1, 0);
        Run.refused("", "boat(7,2)", 1, 0);
        Run.refused("", "boat(0,1)", 1, 0);
        Run.refused("", "boat(0,7)", 1, 0);
        Run.refused("", "boat(-1,1)", 1, 0);
        for (String far : FAR) {
            Run.refused("2*boat(0,2)", "boat(" + far + ",2)", 1, 0);
            Run.refused("2*boat(0,2)", "boat(0," + far + ")", 1, 0);
        }
        Run.run("2*boat(0,2) boat(6,6)=2");
        Run.refused("3*boat(0,2)", "boat(0,2)", 2, 3);
        Run.refused("3*boat(0,2)", "boat(6,6)", 2, 3);
        Run.refused("3*boat(0,2)", "boat(7,2)", 1, 0);
        Run.refused("3*boat(0,2)", "boat(0,1)", 1, 0);
    }

    private static void promise6() {
        Document.says("Promise 6", "Calls a boat out.");
        Run.run(TWO + "account(4)=0 account(7)=0 call(0,2) boatOf(0,2)=1 account(4)=1 account(7)=1",
                "boatOf(0,6)=1 memberOf(0,6)=1 memberOf(0,7)=1 memberOf(1,6)=1 memberOf(1,7)=0",
                "memberOf(0,3)=0 crew(0)=3 free()=5 account(11)=4 pass(2) account(7)=1 call(0,1)",
                "account(7)=2 boatOf(0,6)=2 memberOf(0,6)=2 memberOf(0,7)=2");
        Document.says("Promise 6", "boat: the boat");
        Run.run("3*member(0) 3*member(2) 3*boat(0,2) call(2,1)=3 crew(0)=0 crew(1)=0 crew(2)=9",
                "call(0,1)=4 crew(0)=18 crew(1)=0 call(1,1)=5 crew(1)=36");
        Document.says("Promise 6", "hours: for how many hours");
        for (int hours = 1; hours <= 9; hours++) {
            Run.run(TWO + "call(0," + hours + ") boatOf(0,3)=" + hours + " homeIn(0)=" + hours);
        }
        Document.says("Promise 6", "Returns its coxswain.");
        Run.run(TWO + "call(0,1)=0 boatOf(0,5)=0");
        Run.run("9*member(0) member(2) boat(0,6) boat(0,2) call(1,1)=9 boatOf(1,5)=9");
        Run.run("member(2) 4*member(1) member(2) boat(0,2) call(0,1)=0 pass(1) call(0,1)=5 pass(9)",
                "call(0,1)=0");
        Document.says("Promise 6", "Throws UnsupportedOperationException if it is refused for the"
                + " reason 3, 1, 5, 7, 8, 9, 10 or 11; the reason is kept");
        Run.refused("", "call(0,1)", 3, 0);
        Run.refused(TWO, "call(-1,1)", 3, -1);
        Run.refused(TWO, "call(1,1)", 3, 1);
        Run.refused(TWO + "2*boat(0,2)", "call(3,1)", 3, 3);
        Run.refused(TWO, "call(min,1)", 3, Integer.MIN_VALUE);
        Run.refused(TWO, "call(max,1)", 3, Integer.MAX_VALUE);
        for (String hours : new String[] {"-1", "0", "10", "min", "max"}) {
            Run.refused(TWO, "call(0," + hours + ")", 1, 0);
        }
        Run.refused(TWO + "call(0,1)", "call(0,1)", 5, 0);
        Run.run(TWO + "call(0,1) pass(1) call(0,1)=0");
        Run.refused("member(2) member(0) boat(6,2)", "call(0,1)", 7, 6);
        Run.refused("3*member(1) boat(0,2)", "call(0,1)", 8, 0);
        Run.refused("member(2) boat(0,3)", "call(0,1)", 9, 2);
        Run.refused("member(2) 2*member(0) boat(0,3)", "call(0,1)", 10, 1);
        Run.refused(FIVES + "call(0,9)", "call(1,1)", 11, 2);
        Run.refused(FIVES + "borrow(1,9) call(0,9)", "call(1,1)", 11, 1);
        Run.run(FIVES + "borrow(2,9) call(0,9) call(1,1)=5");
    }

    /** Each reason, while the next ones that can be apply as well. */
    private static void promise6InOrder() {
        Document.says("Promise 6", "3, 1, 5, 7, 8, 9, 10 or 11");
        Run.refused("", "call(0,0)", 3, 0);
        Run.refused(TWO + "call(0,9)", "call(-1,10)", 3, -1);
        Run.refused(TWO + "call(0,9)", "call(0,0)", 1, 0);
        Run.refused(TWO + "call(0,9)", "call(0,10)", 1, 0);
        Run.refused("boat(6,6)", "call(0,10)", 1, 0);
        Run.refused("member(2) member(0) boat(6,2) pass(6) call(0,9) pass(6)", "call(0,1)", 5, 0);
        Run.refused("boat(6,6)", "call(0,1)", 7, 6);
        Run.refused("boat(0,6)", "call(0,1)", 8, 0);
        Run.refused("5*member(0) boat(0,6)", "call(0,1)", 8, 0);
        Run.refused("member(2) 4*member(0) boat(0,6)", "call(0,1)", 9, 1);
        // Of 10 members 5 are out, with 4 of 6 oars.
        String out = "boat(0,5) boat(0,5) boat(6,5) ";
        Run.refused("member(2) 2*member(1) 7*member(0) " + out + "call(0,9)", "call(2,1)", 7, 6);
        Run.refused("member(2) 2*member(1) 7*member(0) " + out + "call(0,9)", "call(1,1)", 8, 0);
        Run.refused("member(2) 4*member(1) member(2) 3*member(0) " + out + "call(0,9)",
                "call(1,1)", 9, 1);
        Run.refused("member(2) 4*member(1) member(2) 4*member(0) " + out + "call(0,9)",
                "call(1,1)", 10, 2);
        Run.refused("member(2) 4*member(1) member(2) 2*member(1) 2*member(0) " + out + "call(0,9)",
                "call(1,1)", 11, 2);
    }

    private static void promise7() {
        Document.says("Promise 7", "Borrows oars.");
        Run.run("borrow(5,7) account(5)=1 account(6)=11 free()=11 loanOf(0,2)=0 account(11)=1");
        // It is not late, though one that was late has had its number before it.
        Run.run(FIVES + "borrow(2,1) call(0,3) call(1,3) pass(2) loanOf(0,2)=2 pass(1) account(5)=0",
                "borrow(1,5)=0 loanOf(0,1)=5 loanOf(0,2)=0");
        Document.says("Promise 7", "oars: how many, 1 to 9");
        Run.run("borrow(1,5) loanOf(0,0)=1 free()=7 borrow(9,5) loanOf(1,0)=9 free()=16");
        Document.says("Promise 7", "hours: in how many hours they are due, 1 to 48");
        Run.run("borrow(1,1) loanOf(0,1)=1 borrow(1,48) loanOf(1,1)=48 pass(1) account(5)=1 pass(46)",
                "account(5)=1 loanOf(0,1)=1 pass(1) account(5)=0");
        Document.says("Promise 7", "Returns the number of the loan.");
        Run.run("borrow(1,9)=0 borrow(1,9)=1 borrow(1,9)=2 borrow(1,9)=3 giveBack(1) borrow(1,9)=3");
        Document.says("Promise 7", "Throws UnsupportedOperationException if it is refused for the"
                + " reason 1, for the oars, then for the hours, or 2; the reason is kept");
        for (String oars : new String[] {"-1", "0", "10", "min", "max"}) {
            Run.refused("", "borrow(" + oars + ",1)", 1, 0);
            Run.refused("4*borrow(1,9)", "borrow(" + oars + ",1)", 1, 0);
        }
        for (String hours : new String[] {"-1", "0", "49", "min", "max"}) {
            Run.refused("", "borrow(1," + hours + ")", 1, 0);
            Run.refused("4*borrow(1,9)", "borrow(1," + hours + ")", 1, 0);
        }
        Run.refused("", "borrow(0,0)", 1, 0);
        Run.refused("", "borrow(10,49)", 1, 0);
        Run.run("3*borrow(1,9) borrow(9,48)=3");
        Run.refused("4*borrow(1,9)", "borrow(1,1)", 2, 4);
        Run.refused("4*borrow(1,9)", "borrow(9,48)", 2, 4);
    }

    private static void promise8() {
        Document.says("Promise 8", "Gives a loan back.");
        Run.run("borrow(5,7) giveBack(0) account(5)=0 account(6)=6 free()=6 account(11)=2",
                "loanOf(0,0)=IndexOutOfBounds");
        Run.run("borrow(5,7) borrow(2,9) giveBack(0) loanOf(0,0)=2 loanOf(0,1)=9 pass(9) account(5)=0");
        Document.says("Promise 8", "loan: the loan");
        Run.run("borrow(1,9) borrow(2,9) borrow(3,9) borrow(4,9) giveBack(0) loanOf(0,0)=2",
                "giveBack(2) loanOf(1,0)=3 loanOf(2,0)=IndexOutOfBounds");
        Document.says("Promise 8", "Returns how many oars are free then.");
        Run.run("borrow(1,9) borrow(9,9) giveBack(0)=15 giveBack(0)=6");
        Run.run(FIVES + "borrow(2,9) borrow(3,9) call(0,9) call(1,9) free()=3 giveBack(1)=0");
        Run.run(FIVES + "borrow(3,9) borrow(2,9) call(0,9) call(1,9) free()=3 giveBack(1)=1");
        Document.says("Promise 8", "Throws UnsupportedOperationException if it is refused for the"
                + " reason 3 or 11; the reason is kept");
        Run.refused("", "giveBack(0)", 3, 0);
        Run.refused("borrow(1,9)", "giveBack(-1)", 3, -1);
        Run.refused("borrow(1,9)", "giveBack(1)", 3, 1);
        Run.refused("4*borrow(1,9)", "giveBack(4)", 3, 4);
        Run.refused("borrow(1,9) giveBack(0)", "giveBack(0)", 3, 0);
        Run.refused("borrow(1,9)", "giveBack(min)", 3, Integer.MIN_VALUE);
        Run.refused("borrow(1,9)", "giveBack(max)", 3, Integer.MAX_VALUE);
        String out = FIVES + "borrow(3,9) borrow(%d,9) call(0,9) call(1,9) ";
        Run.refused(String.format(out, 1), "giveBack(0)", 11, 1);
        Run.refused(FIVES + "borrow(9,9) call(0,9) call(1,9)", "giveBack(0)", 11, 2);
        Run.run(String.format(out, 1) + "giveBack(1)=1");
        Run.run(String.format(out, 2) + "giveBack(0)=0");
        Run.run(String.format(out, 3) + "giveBack(0)=1");
        Run.refused(FIVES + "borrow(2,9) call(0,9) call(1,9)", "giveBack(1)", 3, 1);
        // A loan that is late can be given back too, once there are as many oars.
        Run.run(FIVES + "borrow(2,1) call(0,9) call(1,9) pass(1) giveBack(0)=Unsupported",
                Run.kept(11, 2), "borrow(2,9) giveBack(0)=0 loanOf(0,2)=0 account(9)=1");
    }

    private static void promise9() {
        Document.says("Promise 9", "Sets the limit.");
        Run.run("limit(5) account(10)=5 account(11)=1");
        Run.run(TWO + "call(0,1) pass(1) able()=3 limit(2) able()=2 limit(1) able()=0 limit(3) able()=3");
        Document.says("Promise 9", "weariness: the limit");
        Run.run("limit(1) account(10)=1 limit(20) account(10)=20");
        Document.says("Promise 9", "Returns the limit before.");
        Run.run("limit(7)=8 limit(1)=7 limit(20)=1 limit(8)=20 undo()=3 limit(2)=20");
        Document.says("Promise 9", "Throws UnsupportedOperationException if it is refused for the"
                + " reason 1 or 6; the reason is kept");
        for (String limit : new String[] {"-1", "0", "21", "min", "max"}) {
            Run.refused("", "limit(" + limit + ")", 1, 0);
        }
        Run.refused("", "limit(8)", 6, 0);
        Run.refused("limit(20)", "limit(20)", 6, 0);
        Run.refused("limit(1)", "limit(1)", 6, 0);
        Run.run("limit(9)=8 limit(8)=9 limit(7)=8");
    }
}
