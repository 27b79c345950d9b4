/** Promises 31 to 38: the line, the mean and the share, the accounts, undo and the snapshot. */
public final class Promises31To38Test {
    private static final String TWO = "member(2) member(0) boat(0,2) ";
    private static final String FIVES =
            "member(2) 4*member(1) member(2) 4*member(1) 2*boat(0,5) ";
    private static final String[] FAR = {"min", "-1", "max"};
    /** One change: both boats are out, the first one waits outside, and the loan is late. */
    private static final String BUSY =
            "text(m2;m1;m1;m1;m1;m2;m1;m1;m1;m1;b25;b05;t10;o21;c01;c19;t1) commands() ";
    /** One change: the boat 1 is out with 0 and 1, ashore are 2 and 3, and 4 is gone. */
    private static final String CALM = "text(m2;m0;m0;m2;m1;x4;b12;b02;o19;c12) commands() ";

    public static void main(String[] args) {
        promise31();
        promise32();
        promise33();
        promise34();
        promise35();
        promise35EachAccount();
        promise36();
        promise36HowMany();
        promise37();
        promise38();
        Document.allPromisesTold(31, 38);
        Check.end("Promises31To38Test");
    }

    private static void promise31() {
        Document.says("Promise 31", "Writes a boat, in place of the line before: its number, \"d\""
                + " and its draft, \"s\" and its seats,");
        Run.run("boat(0,2) boat(6,6) boat(3,4) line(0)=5 written()=0d0s2 line(1)=5 written()=1d6s6",
                "line(2)=5 written()=2d3s4");
        // In place of a longer one, and of one that is as long.
        Run.run(TWO + "boat(6,6) call(0,9) line(0)=11 written()=0d0s2:0*1+9 line(1)=5 written()=1d6s6",
                "line(0)=11 written()=0d0s2:0*1+9 line(0)=11 written()=0d0s2:0*1+9");
        Document.says("Promise 31", "and, if it is out, \":\" and its crew by their numbers, with"
                + " \"*\" behind the coxswain, and \"+\" and its hours left;");
        Run.run(TWO + "line(0)=5 call(0,2) line(0)=11 written()=0d0s2:0*1+2 pass(1) line(0)=11",
                "written()=0d0s2:0*1+1 pass(1) line(0)=5 written()=0d0s2");
        Run.run("member(0) member(2) boat(0,2) call(0,9) line(0)=11 written()=0d0s2:01*+9");
        Run.run("member(1) member(1) member(2) 7*member(1) boat(0,6) call(0,1) line(0)=15",
                "written()=0d0s6:012*345+1");
        Run.run("8*member(0) 2*member(2) boat(0,2) boat(0,2) call(1,1) line(1) written()=1d0s2:08*+1",
                "leave(1) leave(2) leave(3) leave(4) leave(5) leave(6) leave(7) call(0,1)=Unsupported");
        Run.run("member(2) member(0) boat(1,2) pass(11) call(0,1) pass(1) line(0) written()=0d1s2:0*1+0",
                "pass(1) line(0) written()=0d1s2");
        Document.says("Promise 31", "as in \"1d3s4:02*56+2\".");
        Run.run("member(0) member(0) member(2) member(0) member(0) member(1) member(0) boat(0,2)",
                "boat(3,4) leave(1) leave(3) leave(4) pass(3) call(1,2) line(1)=13",
                "written()=1d3s4:02*56+2");
        Document.says("Promise 31", "boat: the boat");
        Run.run("3*boat(0,2) line(0) character(0)=0 line(2) character(0)=2");
        Document.says("Promise 31", "Returns the length of the line.");
        Run.run(TWO + "line(0)=5 character(4)=2 character(5)=IndexOutOfBounds call(0,1) line(0)=11");
        Document.says("Promise 31", "Throws IndexOutOfBoundsException if there is no such boat");
        Run.fails("", "line(0)", "IndexOutOfBounds");
        Run.fails(TWO + "call(0,2) line(0)", "line(1)", "IndexOutOfBounds");
        Run.fails("3*boat(0,2) line(1)", "line(3)", "IndexOutOfBounds");
        for (String far : FAR) {
            Run.fails(TWO + "line(0)", "line(" + far + ")", "IndexOutOfBounds");
        }
    }

    private static void promise32() {
        Document.says("Promise 32", "Returns a character of the line, which is empty at first.");
        Run.run("character(0)=IndexOutOfBounds boat(3,4) character(0)=IndexOutOfBounds line(0)",
                "character(0)=0");
        // The line stays when the boat changes, until another is written.
        Run.run(TWO + "line(0) call(0,2) written()=0d0s2 line(0) pass(2) written()=0d0s2:0*1+2",
                "line(9)=IndexOutOfBounds written()=0d0s2:0*1+2");
        Document.says("Promise 32", "index: the index, from 0");
        Document.says("Promise 32", "Returns the character.");
        Run.run("boat(3,4) line(0)=5 character(0)=0 character(1)=d character(2)=3 character(3)=s",
                "character(4)=4 character(5)=IndexOutOfBounds");
        Run.run(TWO + "call(0,9) line(0)=11 character(5)=: character(6)=0 character(7)=* character(8)=1",
                "character(9)=+ character(10)=9 character(11)=IndexOutOfBounds");
        Document.says("Promise 32", "Throws IndexOutOfBoundsException if there is no such index");
        Run.fails("", "character(0)", "IndexOutOfBounds");
        Run.fails("boat(0,2) line(0)", "character(5)", "IndexOutOfBounds");
        Run.fails(TWO + "call(0,9) line(0) pass(9) line(0)", "character(10)", "IndexOutOfBounds");
        for (String far : FAR) {
            Run.fails("boat(0,2) line(0)", "character(" + far + ")", "IndexOutOfBounds");
        }
    }

    private static void promise33() {
        Document.says("Promise 33", "Returns the mean weariness of the members who are not gone:"
                + " the sum divided by their number, both as doubles.");
        Document.says("Promise 33", "Returns the mean.");
        Run.run("member(2) meanWeariness()=0.0");
        Run.run(TWO + "member(0) call(0,2) pass(1) meanWeariness()=1.0 pass(1) meanWeariness()=2.0",
                "pass(1) meanWeariness()=1.3333333333333333 leave(2) meanWeariness()=2.0 leave(0)",
                "meanWeariness()=1.0 pass(1) meanWeariness()=0.0");
        Run.run(TWO + "4*member(0) call(0,1) pass(1) meanWeariness()=0.5 leave(5) meanWeariness()=0.6");
        Run.run(TWO + "5*member(0) call(0,1) pass(1) meanWeariness()=" + 3.0 / 7.0);
        Document.says("Promise 33", "Throws ArithmeticException if there are none");
        Run.fails("", "meanWeariness()", "Arithmetic");
        Run.fails("member(0) leave(0)", "meanWeariness()", "Arithmetic");
        Run.fails(TWO + "call(0,1) pass(1) leave(0) leave(1)", "meanWeariness()", "Arithmetic");
    }

    private static void promise34() {
        Document.says("Promise 34", "Returns the share of the oars that are out, of all oars that"
                + " are there, both numbers as floats.");
        Document.says("Promise 34", "Returns the share.");
        Run.run("outShare()=0.0 borrow(9,9) outShare()=0.0");
        Run.run(TWO + "call(0,2) outShare()=0.16666667 borrow(1,9) outShare()=" + 1f / 7f
                + " giveBack(0) pass(2) outShare()=0.0");
        Run.run(FIVES + "call(0,9) outShare()=0.6666667 borrow(2,9) outShare()=0.5 call(1,9)",
                "free()=0 outShare()=1.0 borrow(5,9) outShare()=" + 8f / 13f);
    }

    private static void promise35() {
        Document.says("Promise 35", "Returns an account.");
        Document.says("Promise 35", "Returns the account.");
        Run.run("account(0)=0 account(1)=0 account(2)=0 account(3)=0 account(4)=0 account(5)=0",
                "account(6)=6 account(7)=0 account(8)=0 account(9)=0 account(10)=8 account(11)=0",
                "account(12)=0");
        Run.run(BUSY + "text(m1;)", "account(0)=11 account(1)=10 account(2)=0 account(3)=2 account(4)=2",
                "account(5)=1 account(6)=8 account(7)=2 account(8)=0 account(9)=1 account(10)=8",
                "account(11)=1 account(12)=3");
        Run.run(CALM + "limit(3) pass(2) account(0)=2 account(1)=5 account(2)=1 account(3)=2 account(4)=0",
                "account(5)=1 account(6)=7 account(7)=1 account(8)=1 account(9)=0 account(10)=3",
                "account(11)=3 account(12)=0");
        Document.says("Promise 35", "Throws IllegalArgumentException if what is not from 0 to 12");
        Run.fails(BUSY, "account(13)", "IllegalArgument");
        for (String far : FAR) {
            Run.fails(BUSY, "account(" + far + ")", "IllegalArgument");
        }
    }

    private static void promise35EachAccount() {
        Document.says("Promise 35", "what: 0 for the hour,");
        Run.run("account(0)=0 pass(99) account(0)=99 pass(1) account(0)=100");
        Document.says("Promise 35", "1 for the members who came,");
        Run.run("9*member(0) account(1)=9 leave(0) account(1)=9 member(0) account(1)=10",
                "member(0)=Unsupported account(1)=10");
        Document.says("Promise 35", "2 for those who are gone,");
        Run.run("3*member(0) account(2)=0 leave(1) account(2)=1 leave(0) leave(2) account(2)=3",
                "leave(2)=Unsupported account(2)=3 undo() account(2)=2");
        Document.says("Promise 35", "3 for the boats,");
        Run.run("account(3)=0 boat(0,2) account(3)=1 boat(0,2) boat(0,2) account(3)=3");
        Document.says("Promise 35", "4 for those that are out,");
        Run.run("3*member(0) 3*member(2) 3*boat(0,2) account(4)=0 call(0,1) account(4)=1 call(1,2)",
                "call(2,2) account(4)=3 pass(1) account(4)=2 pass(1) account(4)=0");
        Run.run("member(2) member(0) boat(1,2) pass(11) call(0,1) pass(1) account(4)=1 pass(1)",
                "account(4)=0");
        Document.says("Promise 35", "5 for the loans,");
        Run.run("account(5)=0 4*borrow(1,1) account(5)=4 giveBack(0) account(5)=3 pass(1) account(5)=0");
        Document.says("Promise 35", "6 for all oars,");
        Run.run(TWO + "account(6)=6 borrow(9,9) account(6)=15 call(0,1) account(6)=15 giveBack(0)",
                "account(6)=6 4*borrow(9,1) account(6)=42 pass(1) account(6)=6");
        Document.says("Promise 35", "7 for the call-outs so far,");
        Run.run(TWO + "account(7)=0 call(0,1) account(7)=1 call(0,1)=Unsupported account(7)=1 pass(1)",
                "account(7)=1 call(0,1) account(7)=2 undo() account(7)=1");
        Document.says("Promise 35", "8 for the boats that came in so far,");
        Run.run(TWO + "call(0,1) account(8)=0 pass(1) account(8)=1 call(0,1) pass(9) account(8)=2",
                "undo() account(8)=1");
        Document.says("Promise 35", "9 for the hours of being late of loans so far,");
        Run.run(FIVES + "borrow(1,2) borrow(1,1) account(9)=0 call(0,3) call(1,9) pass(1) account(9)=1",
                "pass(1) account(9)=3 pass(1) account(9)=3 account(5)=0 borrow(9,9) account(9)=3",
                "undo() undo() account(9)=3 undo() account(9)=1");
        Document.says("Promise 35", "10 for the limit,");
        Run.run("account(10)=8 limit(1) account(10)=1 limit(20) account(10)=20 limit(21)=Unsupported",
                "account(10)=20");
        Document.says("Promise 35", "11 for the changes that can be undone,");
        Run.run("account(11)=0 pass(1) account(11)=1 pass(0)=Unsupported account(11)=1 6*pass(1)",
                "account(11)=7 pass(1) account(11)=8 pass(1) account(11)=8 undo()=7 account(11)=7");
        Document.says("Promise 35", "12 for the characters in the text buffer");
        Run.run("account(12)=0 text(m) account(12)=1 text(" + "1".repeat(58) + ") account(12)=59",
                "append(1) account(12)=60 append(1)=IllegalState account(12)=60",
                "commands()=IllegalArgument account(12)=0");
    }

    private static void promise36() {
        Document.says("Promise 36", "Undoes the latest call that can be undone.");
        for (String call : new String[] {"member(1)", "leave(2)", "train(2)", "boat(6,6)",
            "call(1,9)", "borrow(9,48)", "giveBack(0)", "limit(20)", "pass(1)", "pass(99)"}) {
            String rota = CALM + "pass(3) limit(9) ";
            Run.alike(rota, rota + call + " undo()");
        }
        // Late hours, hours outside, and hours out.
        Run.run(BUSY + "loanOf(0,2)=1 boatOf(0,4)=1 memberOf(5,5)=1 memberOf(5,2)=2 pass(1)",
                "loanOf(0,2)=2 boatOf(0,4)=2 memberOf(5,5)=2 memberOf(5,2)=4");
        Run.alike(BUSY, BUSY + "pass(1) undo()");
        Run.alike(BUSY, BUSY + "pass(20) undo()");
        Run.alike(BUSY + "borrow(3,1)", BUSY + "borrow(3,1) pass(9) undo()");
        // One after the other, back to the first.
        String seven = "train(2) limit(2) member(1) borrow(9,9) pass(5) call(1,3) giveBack(1) ";
        Run.alike(CALM, CALM + seven + "7*undo()");
        Run.alike(CALM + "train(2) limit(2)", CALM + seven + "5*undo()");
        Run.alike("", CALM + seven + "8*undo()");
        // Behind an undo other changes go on from there.
        Run.alike(BUSY + "pass(3)", BUSY + "pass(7) undo() pass(3)");
        Run.alike(BUSY + "limit(3)", BUSY + "pass(7) pass(8) undo() undo() limit(3)");
        // A whole text is one change, and one that is refused is none.
        Run.alike(BUSY, BUSY + "text(t1;o11;l3) commands() undo()");
        Run.alike("", "member(1) text(t1;x3) commands()=Unsupported undo()", "reason");
        // Members and boats who come where others were undone are new ones.
        Run.alike("member(1) boat(3,3)", TWO + "call(0,3) pass(3) 5*undo() member(1) boat(3,3)");
        Run.alike("save() member(1) boat(3,3)",
                "save() " + TWO + "call(0,3) pass(3) restore() member(1) boat(3,3)");
        // The snapshot stays.
        Run.run("pass(5) save() pass(4) undo()=1 undo()=0 account(0)=0 restore()=5");
    }

    private static void promise36HowMany() {
        Document.says("Promise 36", "Returns the number of calls that can still be undone.");
        Run.run("3*pass(1) undo()=2 undo()=1 undo()=0 undo()=IllegalState");
        Run.run("8*pass(1) undo()=7 undo()=6 undo()=5 undo()=4 undo()=3 undo()=2 undo()=1 undo()=0",
                "undo()=IllegalState account(0)=0");
        Run.run("9*pass(1) undo()=7 undo()=6 undo()=5 undo()=4 undo()=3 undo()=2 undo()=1 undo()=0",
                "undo()=IllegalState account(0)=1");
        Run.run("7*pass(1) undo()=6 pass(1) pass(1) undo()=7 2*pass(1) undo()=7");
        // Many more than 8, and to and fro.
        Run.run("30*pass(1) undo()=7 undo()=6 account(0)=28 5*pass(2) account(0)=38 undo()=7",
                "account(0)=36 undo()=6 undo()=5 undo()=4 undo()=3 account(0)=28 undo()=2 account(0)=27",
                "undo()=1 undo()=0 account(0)=25 undo()=IllegalState");
        Document.says("Promise 36", "Throws IllegalStateException if there is none");
        Run.fails("", "undo()", "IllegalState");
        Run.fails("text(m1) line(0)=IndexOutOfBounds save()", "undo()", "IllegalState");
        Run.fails("member(0) undo()", "undo()", "IllegalState");
        Run.fails("save() member(0) restore()", "undo()", "IllegalState");
        Run.fails("member(3)=Unsupported", "undo()", "IllegalState");
    }

    private static void promise37() {
        Document.says("Promise 37", "Saves all that can be undone, in place of an earlier snapshot.");
        Run.alike(BUSY + "save() restore()", BUSY + "save() pass(9) limit(2) boat(6,6)"
                + " borrow(9,1) pass(3) restore()");
        Run.alike(CALM + "save() restore()", CALM + "save() train(2) leave(3) pass(9) member(2)"
                + " restore()");
        Run.run("save() pass(3) save()=3 pass(4) restore()=3 save()=3 pass(1) save()=4 restore()=4");
        Run.run("pass(1) save() member(0) save() leave(0) restore()=1 memberOf(0,1)=0");
        // It changes nothing itself, and is no change.
        Run.run("7*pass(1) save() account(11)=7 pass(1) account(11)=8 undo()=7 undo()=6");
        Run.alike(BUSY, BUSY + "save()");
        Document.says("Promise 37", "Returns the hour.");
        Run.run("save()=0 pass(1) save()=1 pass(99) save()=100 undo() save()=1");
    }

    private static void promise38() {
        Document.says("Promise 38", "Restores what was saved; the snapshot is kept.");
        Run.alike(BUSY, BUSY + "save() pass(9) restore()", "undo");
        Run.alike("", "save() member(0) boat(0,2) limit(3) borrow(1,1) restore()");
        String twice = BUSY + "save() pass(9) restore() ";
        Run.alike(twice, twice + "limit(3) pass(5) borrow(1,1) boat(0,6) restore()");
        Run.alike(twice, twice + "pass(5) undo() pass(4) restore() pass(1) restore()");
        Run.run(CALM + "pass(1) save()=1 restore()=1 pass(2) train(2) account(11)=2 restore()=1",
                "restore()=1 account(11)=0 pass(1) undo()=0 account(0)=1 restore()=1");
        // What was undone before is not kept, and new changes can be undone again.
        Run.run("8*pass(1) save() restore()=8 undo()=IllegalState 9*pass(1) account(11)=8 undo()=7",
                "account(0)=16 restore()=8 account(11)=0");
        // A snapshot of something that was undone.
        Run.run("member(0) save() undo() account(1)=0 restore()=0 account(1)=1 undo()=IllegalState");
        Document.says("Promise 38", "Returns the hour.");
        Run.run("save() pass(3) restore()=0 pass(4) save() pass(5) restore()=4 account(0)=4");
        Document.says("Promise 38", "Throws IllegalStateException if there is no snapshot");
        Run.fails("", "restore()", "IllegalState");
        Run.fails(BUSY + "pass(1) line(0)", "restore()", "IllegalState");
    }
}
