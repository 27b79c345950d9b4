/** The words "Oars", "Hours" and "Details" of "Terms": every sentence, with its edges. */
public final class TermsOfHoursTest {
    private static final String TWO = "member(2) member(0) boat(0,2) ";
    /** Enough members for two boats of 5; the coxswains are 0 and 5. */
    private static final String TEN = "member(2) 4*member(1) member(2) 4*member(1) ";
    /** Two boats of 5, which take 4 oars each. */
    private static final String FIVES = TEN + "2*boat(0,5) ";

    public static void main(String[] args) {
        oars();
        hours();
        details();
        Document.allTold("Oars", "Hours", "Details");
        Check.end("TermsOfHoursTest");
    }

    private static void oars() {
        Document.says("Oars", "The station has 6 oars of its own.");
        Run.run("account(6)=6 free()=6 outShare()=0.0");
        Run.run("borrow(9,1)=0 giveBack(0)=6 account(6)=6");
        atMostFourLoans();
        Document.says("Oars", "An oar is free if it is not out with a boat.");
        Run.run(FIVES + "free()=6 borrow(2,9) free()=8 call(0,1) free()=4 call(1,2) free()=0",
                "pass(1) free()=4 pass(1) free()=8 giveBack(0)=6 free()=6");
        numbersBecomeLess();
    }

    private static void atMostFourLoans() {
        Document.says("Oars", "At most 4 loans of oars are there at once, numbered from 0,");
        Run.run("account(5)=0 loanOf(0,0)=IndexOutOfBounds borrow(1,9)=0 borrow(2,9)=1",
                "borrow(3,9)=2 account(5)=3 loanOf(3,0)=IndexOutOfBounds borrow(4,9)=3",
                "account(5)=4 loanOf(3,0)=4 loanOf(4,0)=IndexOutOfBounds account(6)=16");
        Run.refused("4*borrow(1,9)", "borrow(1,9)", 2, 4);
        Run.run("4*borrow(1,9) giveBack(0) borrow(5,9)=3 account(5)=4 loanOf(3,0)=5");
        Run.run("3*borrow(1,9) borrow(1,1) pass(1) borrow(5,9)=3 account(5)=4");
        Document.says("Oars", "each of 1 to 9 oars,");
        Run.refused("", "borrow(0,1)", 1, 0);
        Run.run("borrow(1,1)=0 loanOf(0,0)=1 account(6)=7");
        Run.run("borrow(9,1)=0 loanOf(0,0)=9 account(6)=15 3*borrow(9,1) account(6)=42");
        Run.refused("", "borrow(10,1)", 1, 0);
        Document.says("Oars", "and of hours until it is due.");
        Run.run("borrow(1,1) loanOf(0,1)=1 pass(1) account(5)=0");
        Run.run("borrow(1,48) loanOf(0,1)=48 pass(47) loanOf(0,1)=1 pass(1) account(5)=0");
        Run.refused("", "borrow(1,0)", 1, 0);
        Run.refused("", "borrow(1,49)", 1, 0);
    }

    private static void numbersBecomeLess() {
        Document.says("Oars",
                "When a loan is given back, the numbers of the later ones become 1 less.");
        String four = "borrow(1,11) borrow(2,12) borrow(3,13) borrow(4,14) ";
        Run.alike(four + "giveBack(0)", "borrow(2,12) borrow(3,13) borrow(4,14)", "undo");
        Run.alike(four + "giveBack(1)", "borrow(1,11) borrow(3,13) borrow(4,14)", "undo");
        Run.alike(four + "giveBack(2)", "borrow(1,11) borrow(2,12) borrow(4,14)", "undo");
        Run.alike(four + "giveBack(3)", "borrow(1,11) borrow(2,12) borrow(3,13)", "undo");
        Run.run(four + "giveBack(0)=15 giveBack(0)=13 giveBack(0)=10 giveBack(0)=6",
                "giveBack(0)=Unsupported");
        Run.run("borrow(1,3) borrow(2,1) borrow(3,2) pass(1) loanOf(0,0)=1 loanOf(1,0)=3",
                "loanOf(1,1)=1 loanOf(2,0)=IndexOutOfBounds pass(1) loanOf(0,0)=1 account(5)=1");
    }

    private static void hours() {
        Document.says("Hours", "When an hour goes by, its number grows by 1.");
        Run.run("account(0)=0 pass(1) account(0)=1 pass(1) account(0)=2 pass(99) account(0)=101");
        wearier();
        lessWeary();
        anHourLess();
        comesIn();
        membersBeforeBoats();
        loansAfterBoats();
        givenBackOrLate();
        loansByNumbers();
    }

    private static void wearier() {
        Document.says("Hours", "First, by numbers, each member who is out becomes wearier by 1,"
                + " or by 2 if it is the coxswain of its boat;");
        Run.run(TWO + "member(1) call(0,2) memberOf(0,2)=0 pass(1) memberOf(0,2)=2",
                "memberOf(1,2)=1 memberOf(2,2)=0 pass(1) memberOf(0,2)=4 memberOf(1,2)=2");
        // One with the skill 2 who is not the coxswain of its boat.
        Run.run("2*member(2) boat(0,2) call(0,1)=0 pass(1) memberOf(0,2)=2 memberOf(1,2)=1");
        Run.run(FIVES + "borrow(2,9) call(0,1) call(1,3) pass(1) memberOf(0,2)=2 memberOf(4,2)=1",
                "memberOf(5,2)=2 memberOf(9,2)=1 pass(1) memberOf(0,2)=1 memberOf(4,2)=0",
                "memberOf(5,2)=4 memberOf(9,2)=2");
        // Also beyond the limit, and while the boat waits outside.
        Run.run(TWO + "call(0,9) pass(9) memberOf(0,2)=18 memberOf(1,2)=9 limit(20)",
                "call(0,9) pass(9) memberOf(0,2)=36 memberOf(1,2)=18");
        Run.run("member(2) member(0) boat(6,2) pass(6) call(0,1) pass(2) boatOf(0,3)=0",
                "memberOf(0,2)=4 memberOf(1,2)=2 pass(10) memberOf(0,2)=24 memberOf(1,2)=12");
    }

    private static void lessWeary() {
        Document.says("Hours", "each one ashore less weary by 1, down to 0.");
        Run.run(TWO + "call(0,1) pass(1) memberOf(0,2)=2 memberOf(1,2)=1 pass(1) memberOf(0,2)=1",
                "memberOf(1,2)=0 pass(1) memberOf(0,2)=0 memberOf(1,2)=0 pass(1) memberOf(0,2)=0",
                "pass(99) memberOf(0,2)=0 memberOf(1,2)=0 meanWeariness()=0.0");
    }

    private static void anHourLess() {
        Document.says("Hours",
                "Then, by numbers, each boat that is out has an hour less left, if it has any left,");
        Run.run("2*member(0) 2*member(2) 3*boat(0,2) call(1,5)=2 call(0,9)=3 pass(4) boatOf(0,3)=5",
                "boatOf(1,3)=1 boatOf(2,3)=0 pass(1) boatOf(0,3)=4 boatOf(1,3)=0 boatOf(2,3)=0");
        Run.run("member(2) member(0) boat(1,2) pass(11) call(0,1) boatOf(0,3)=1 pass(1)",
                "boatOf(0,3)=0 boatOf(0,2)=1 pass(1) boatOf(0,3)=0");
        Run.run("member(2) member(0) boat(6,2) pass(6) call(0,2) pass(1) boatOf(0,3)=1 pass(1)",
                "boatOf(0,3)=0 pass(9) boatOf(0,3)=0 boatOf(0,2)=1");
    }

    private static void comesIn() {
        Document.says("Hours", "and comes in, if it has none left and can.");
        Run.run(TWO + "call(0,2) pass(1)=0 boatOf(0,2)=1 pass(1)=1 boatOf(0,2)=0");
        String deep = "member(2) member(0) boat(2,2) pass(2) ";
        Run.run(deep + "call(0,8) pass(7)=0 boatOf(0,3)=1 pass(1)=1 height(0)=2");
        Run.run(deep + "call(0,9) pass(9)=0 boatOf(0,3)=0 height(0)=1 boatOf(0,2)=1 pass(2)=0",
                "height(0)=1 boatOf(0,2)=1 pass(1)=1 height(0)=2 boatOf(0,2)=0");
        Run.run("3*member(0) 3*member(2) 3*boat(0,2) call(0,1) call(1,1) call(2,1) pass(1)=3",
                "account(4)=0 account(8)=3");
    }

    /** Else the crew would be ashore, and rest, in the hour in which it comes in. */
    private static void membersBeforeBoats() {
        Document.says("Hours", "Then, by numbers, each boat that is out");
        Run.run(TWO + "call(0,1) pass(1)=1 memberOf(0,1)=0 memberOf(0,2)=2 memberOf(1,2)=1",
                "memberOf(0,5)=1 memberOf(1,5)=1");
    }

    /** Else the loans would be late in the hour in which a boat brings their oars. */
    private static void loansAfterBoats() {
        Document.says("Hours",
                "Then, by numbers, each loan has an hour less until it is due, if it has any;");
        Run.run("borrow(1,3) borrow(1,2) loanOf(0,1)=3 loanOf(1,1)=2 pass(1) loanOf(0,1)=2",
                "loanOf(1,1)=1 account(5)=2 pass(1) loanOf(0,1)=1 account(5)=1 pass(1)",
                "account(5)=0");
        Run.run(FIVES + "borrow(2,1) call(0,1) call(1,9) pass(1)=1 account(5)=0 account(9)=0");
        Run.run(FIVES + "borrow(2,1) call(0,2) call(1,9) pass(1)=0 loanOf(0,1)=0 loanOf(0,2)=1",
                "account(9)=1 pass(1)=1 account(5)=0 account(9)=1");
        // With none left it stays at 0.
        Run.run(FIVES + "borrow(2,2) call(0,9) call(1,9) pass(1) loanOf(0,1)=1 pass(1)",
                "loanOf(0,1)=0 pass(1) loanOf(0,1)=0 pass(5) loanOf(0,1)=0");
    }

    /** While both boats of 5 are out, 2 oars less are free than are lent. */
    private static void givenBackOrLate() {
        Document.says("Hours", "one that has none is given back, if as many oars are free;");
        Run.run(FIVES + "borrow(2,1) borrow(2,9) call(0,9) call(1,9) free()=2 pass(1) account(5)=1",
                "loanOf(0,0)=2 loanOf(0,1)=8 account(9)=0 free()=0");
        Run.run(FIVES + "borrow(2,1) borrow(3,9) call(0,9) call(1,9) free()=3 pass(1) account(5)=1",
                "loanOf(0,0)=3 free()=1");
        Run.run("borrow(9,1) free()=15 pass(1) account(5)=0 free()=6 account(6)=6");
        Document.says("Hours", "otherwise it is late for an hour more.");
        Run.run(FIVES + "borrow(2,1) borrow(1,9) call(0,9) call(1,9) free()=1 loanOf(0,2)=0",
                "pass(1) account(5)=2 loanOf(0,0)=2 loanOf(0,2)=1 loanOf(1,2)=0 account(9)=1",
                "pass(1) loanOf(0,2)=2 account(9)=2 pass(6) loanOf(0,2)=8 account(9)=8 pass(1)=2",
                "account(5)=0 account(9)=8");
        Run.run(FIVES + "borrow(2,2) call(0,9) call(1,9) pass(1) loanOf(0,2)=0 pass(1)",
                "loanOf(0,2)=1 call(0,1)=Unsupported loanOf(0,2)=1");
    }

    /** Of two that are due an earlier one comes first, and one that is late holds up none. */
    private static void loansByNumbers() {
        Document.says("Hours", "Then, by numbers, each loan");
        Run.run(FIVES + "borrow(3,1) borrow(2,1) call(0,9) call(1,9) free()=3 pass(1) account(5)=1",
                "loanOf(0,0)=2 loanOf(0,2)=1 free()=0");
        Run.run(FIVES + "borrow(2,1) borrow(3,1) call(0,9) call(1,9) free()=3 pass(1) account(5)=1",
                "loanOf(0,0)=3 loanOf(0,2)=1 free()=1");
        Run.run(FIVES + "borrow(4,1) borrow(1,1) call(0,9) call(1,9) free()=3 pass(1) account(5)=1",
                "loanOf(0,0)=4 loanOf(0,2)=1 free()=2");
    }

    private static void details() {
        waitsOutside();
        allSeatsAreCounted();
        goneKeepsItsNumbers();
        noneIsLeftOut();
    }

    private static void waitsOutside() {
        Document.says("Details", "A boat has waited outside for an hour if it has none left behind"
                + " that hour, and cannot come in, also in the hour in which its last one goes.");
        String rota = "member(2) member(0) boat(1,2) pass(10) ";
        Run.run(rota + "call(0,1) pass(1)=1 boatOf(0,4)=0");
        Run.run(rota + "call(0,2) pass(1) boatOf(0,3)=1 boatOf(0,4)=0 pass(1)=0 boatOf(0,3)=0",
                "boatOf(0,4)=1 boatOf(0,2)=1 pass(1)=1 boatOf(0,4)=1");
        Run.run(rota + "call(0,3) pass(2) boatOf(0,3)=1 boatOf(0,4)=0 pass(1)=1 boatOf(0,4)=0");
        Run.run("member(2) member(0) boat(6,2) pass(6) call(0,1) pass(1) boatOf(0,4)=1 pass(1)",
                "boatOf(0,4)=2 pass(9) boatOf(0,4)=11 pass(1)=1 boatOf(0,4)=11 pass(9)",
                "boatOf(0,4)=11");
    }

    private static void allSeatsAreCounted() {
        Document.says("Details",
                "Of members who are missing all seats are counted, that of the coxswain too.");
        Run.refused("member(2) boat(0,2)", "call(0,1)", 9, 1);
        Run.refused("member(2) boat(0,6)", "call(0,1)", 9, 5);
        Run.refused("member(2) 4*member(1) boat(0,6)", "call(0,1)", 9, 1);
        Run.run("member(2) 5*member(1) boat(0,6) call(0,1)=0");
    }

    private static void goneKeepsItsNumbers() {
        Document.says("Details", "A member who is gone keeps its numbers as they were.");
        Run.run(TWO + "call(0,3) pass(3) leave(0)=1 pass(1) memberOf(0,0)=2 memberOf(0,1)=2",
                "memberOf(0,2)=6 memberOf(0,3)=-1 memberOf(0,4)=0 memberOf(0,5)=3 memberOf(0,6)=1",
                "memberOf(0,7)=1 memberOf(1,2)=2 pass(99) memberOf(0,2)=6 memberOf(0,5)=3");
    }

    private static void noneIsLeftOut() {
        Document.says("Details",
                "When a loan is given back in an hour, none of the later ones is left out in it.");
        Run.run("4*borrow(1,1) pass(1) account(5)=0");
        Run.run("borrow(1,1) borrow(2,2) borrow(3,3) pass(1) loanOf(0,1)=1 loanOf(1,1)=2");
        Run.run("borrow(1,1) borrow(2,5) borrow(3,1) borrow(4,5) pass(1) account(5)=2",
                "loanOf(0,0)=2 loanOf(0,1)=4 loanOf(1,0)=4 loanOf(1,1)=4");
        Run.run(FIVES + "borrow(1,1) borrow(3,1) borrow(1,9) call(0,9) call(1,9) free()=3",
                "pass(1) loanOf(0,0)=3 loanOf(0,2)=1 loanOf(1,0)=1 loanOf(1,1)=8");
    }
}
