/** Promises 10 to 20: hours, heights, the numbers of members and boats, and who would go. */
public final class Promises10To20Test {
    private static final String TWO = "member(2) member(0) boat(0,2) ";
    private static final String FIVES =
            "member(2) 4*member(1) member(2) 4*member(1) 2*boat(0,5) ";
    private static final String[] FAR = {"min", "-1", "max"};

    /** The boat 0 could be called out in the hour 90 again: it is the hour 42, or 41. */
    private static final String LONG_AGO = "member(2) member(0) boat(6,2) boat(0,2) limit(20) "
            + "pass(6) call(0,1) pass(22) call(1,1) pass(2) call(0,1) limit(1) ";
    private static final String IN_48 = LONG_AGO + "pass(12) memberOf(0,2)=39 account(0)=42 ";
    private static final String IN_49 = LONG_AGO + "pass(11) account(0)=41 ";

    public static void main(String[] args) {
        promise10();
        promise11();
        promise12();
        promise13();
        promise14();
        promise15();
        promise16();
        promises17And18();
        promise18AllCrews();
        promise19();
        promise20();
        promise20TheLastHours();
        promise20FortyEightIsAnAnswer();
        Document.allPromisesTold(10, 20);
        Check.end("Promises10To20Test");
    }

    private static void promise10() {
        Document.says("Promise 10", "Lets hours go by, one after the other.");
        String rota = "text(m2;m0;m2;m0;b02;b42;o29;t4;c12) commands() ";
        Run.alike(rota + "pass(14)", rota + "6*pass(1) pass(3) pass(5)", "undo");
        Run.run(rota + "pass(14) account(11)=2 undo()=1 account(0)=4");
        Document.says("Promise 10", "hours: how many, 1 to 99");
        Run.run("pass(1) account(0)=1 pass(99) account(0)=100 pass(98) account(0)=198");
        Run.run("511*pass(99) account(0)=50589");
        Document.says("Promise 10", "Returns how many boats come in in them.");
        Run.run("pass(1)=0 pass(99)=0");
        Run.run(TWO + "call(0,2) pass(1)=0 pass(1)=1 pass(1)=0 call(0,9) pass(99)=1");
        String three = "3*member(0) 3*member(2) 3*boat(0,2) call(0,1) call(1,2) call(2,3) ";
        Run.run(three + "pass(1)=1 pass(1)=1 pass(1)=1 pass(1)=0");
        Run.run(three + "pass(2)=2 pass(2)=1");
        Run.run(three + "pass(3)=3 account(8)=3 call(0,1) pass(1)=1 account(8)=4");
        Run.run("2*member(0) 2*member(2) boat(0,2) boat(6,2) pass(6) call(0,1) call(1,1) pass(11)=1",
                "pass(1)=1");
        Document.says("Promise 10", "Throws UnsupportedOperationException if it is refused for the"
                + " reason 1; the reason is kept");
        for (String hours : new String[] {"-1", "0", "100", "min", "max"}) {
            Run.refused(TWO + "call(0,2)", "pass(" + hours + ")", 1, 0);
        }
    }

    private static void promise11() {
        Document.says("Promise 11", "Returns the height of the water in some hours.");
        Run.run("height(1)=1 pass(3) height(1)=4 height(0)=3 pass(9) height(1)=1");
        Document.says("Promise 11", "hours: in how many, 0 to 99");
        Run.run("height(0)=0 height(99)=3 height(98)=2 pass(5) height(0)=5 height(99)=4");
        Document.says("Promise 11", "Returns the height.");
        Run.run("height(5)=5 height(6)=6 height(7)=5 height(11)=1 height(12)=0 height(13)=1",
                "pass(4) height(1)=5 height(2)=6 height(3)=5 height(7)=1 height(8)=0 height(9)=1");
        Document.says("Promise 11", "Throws IllegalArgumentException if the number is out of range");
        for (String hours : new String[] {"-1", "100", "min", "max"}) {
            Run.fails(TWO + "pass(7)", "height(" + hours + ")", "IllegalArgument");
        }
    }

    /** Behind these, 0 was the coxswain of the boat 1 for two hours, and is out again. */
    private static void promise12() {
        String rota = "member(2) 2*member(0) member(1) boat(0,2) boat(0,2) call(1,2) pass(2) pass(5) "
                + "leave(3) call(1,3) pass(2) ";
        Document.says("Promise 12", "Returns a number of a member.");
        Run.run(rota + "memberOf(0,0)=2 memberOf(1,0)=0 memberOf(2,0)=0 memberOf(3,0)=1");
        Document.says("Promise 12", "member: the member");
        Run.run("memberOf(0,0)=IndexOutOfBounds 9*member(0) member(1) memberOf(0,0)=0",
                "memberOf(9,0)=1 memberOf(10,0)=IndexOutOfBounds");
        Document.says("Promise 12", "what: 0 for its skill,");
        Run.run("member(0) member(1) member(2) memberOf(0,0)=0 memberOf(1,0)=1 memberOf(2,0)=2");
        Document.says("Promise 12", "1 for 0 if it is ashore, 1 if it is out, and 2 if it is gone,");
        Run.run(rota + "memberOf(0,1)=1 memberOf(1,1)=1 memberOf(2,1)=0 memberOf(3,1)=2");
        Document.says("Promise 12", "2 for its weariness,");
        Run.run(rota + "memberOf(0,2)=4 memberOf(1,2)=2 memberOf(2,2)=0 memberOf(3,2)=0");
        Document.says("Promise 12", "3 for the boat with which it is out, or -1,");
        Run.run(rota + "memberOf(0,3)=1 memberOf(1,3)=1 memberOf(2,3)=-1 memberOf(3,3)=-1 pass(1)",
                "memberOf(0,3)=-1 call(0,1) memberOf(0,3)=0 memberOf(2,3)=0 memberOf(1,3)=-1");
        Document.says("Promise 12", "4 for 1 if it is able, otherwise 0,");
        Run.run(rota + "memberOf(0,4)=0 memberOf(1,4)=0 memberOf(2,4)=1 memberOf(3,4)=0 pass(1)",
                "memberOf(0,2)=6 memberOf(0,4)=1 memberOf(1,4)=1 limit(6) memberOf(0,4)=0",
                "memberOf(1,4)=1 limit(7) memberOf(0,4)=1");
        Document.says("Promise 12", "5 for its hours out so far,");
        Run.run(rota + "memberOf(0,5)=4 memberOf(1,5)=4 memberOf(2,5)=0 memberOf(3,5)=0 pass(1)",
                "memberOf(0,5)=5 pass(1) memberOf(0,5)=5");
        Run.run("member(2) member(0) boat(6,2) pass(6) call(0,1) pass(11) memberOf(0,5)=11 pass(1)",
                "memberOf(0,5)=12 memberOf(1,5)=12 pass(1) memberOf(0,5)=12");
        Document.says("Promise 12", "6 for how often it was called out,");
        Run.run(rota + "memberOf(0,6)=2 memberOf(1,6)=2 memberOf(2,6)=0 memberOf(3,6)=0 pass(1)",
                "memberOf(0,6)=2 call(0,1) memberOf(0,6)=3 memberOf(1,6)=2 memberOf(2,6)=1");
        Document.says("Promise 12", "7 for how often of these as the coxswain");
        Run.run(rota + "memberOf(0,7)=2 memberOf(1,7)=0 memberOf(2,7)=0 memberOf(3,7)=0");
        Run.run("2*member(2) boat(0,2) call(0,1)=0 memberOf(1,6)=1 memberOf(1,7)=0 pass(1)",
                "call(0,1)=1 memberOf(0,6)=2 memberOf(0,7)=1 memberOf(1,6)=2 memberOf(1,7)=1");
        Document.says("Promise 12", "Returns the number.");
        Run.run("member(1) memberOf(0,0)=1 memberOf(0,1)=0 memberOf(0,2)=0 memberOf(0,3)=-1",
                "memberOf(0,4)=1 memberOf(0,5)=0 memberOf(0,6)=0 memberOf(0,7)=0");
        Document.says("Promise 12", "Throws IndexOutOfBoundsException if there is no such member");
        Run.fails("", "memberOf(0,0)", "IndexOutOfBounds");
        Run.fails(rota, "memberOf(4,7)", "IndexOutOfBounds");
        Run.fails("10*member(0)", "memberOf(10,0)", "IndexOutOfBounds");
        for (String far : FAR) {
            Run.fails(rota, "memberOf(" + far + ",0)", "IndexOutOfBounds");
        }
        Run.fails(rota, "memberOf(4,8)", "IndexOutOfBounds");
        Document.says("Promise 12", "Throws IllegalArgumentException if what is not from 0 to 7");
        Run.fails(rota, "memberOf(0,8)", "IllegalArgument");
        for (String far : FAR) {
            Run.fails(rota, "memberOf(3," + far + ")", "IllegalArgument");
        }
    }

    private static void promise13() {
        // The boat 0 waits for an hour with none left; the boat 1 is in.
        String rota = "2*member(0) 2*member(2) boat(1,2) boat(0,3) pass(10) call(0,2) pass(2) ";
        Document.says("Promise 13", "Returns a number of a boat.");
        Run.run(rota + "boatOf(0,0)=1 boatOf(1,0)=0");
        Document.says("Promise 13", "boat: the boat");
        Run.run("boatOf(0,0)=IndexOutOfBounds boat(1,2) boat(2,3) boat(3,4) boatOf(0,0)=1",
                "boatOf(2,0)=3 boatOf(3,0)=IndexOutOfBounds");
        Document.says("Promise 13", "what: 0 for its draft,");
        Run.run("boat(0,2) boat(6,2) boatOf(0,0)=0 boatOf(1,0)=6");
        Document.says("Promise 13", "1 for its seats,");
        Run.run("boat(0,2) boat(6,6) boatOf(0,1)=2 boatOf(1,1)=6");
        Document.says("Promise 13", "2 for 1 if it is out, otherwise 0,");
        Run.run(rota + "boatOf(0,2)=1 boatOf(1,2)=0 pass(1) boatOf(0,2)=0");
        Document.says("Promise 13", "3 for its hours left, 0 if it is not out,");
        Run.run(TWO + "boatOf(0,3)=0 call(0,9) boatOf(0,3)=9 pass(8) boatOf(0,3)=1 pass(1)",
                "boatOf(0,3)=0 call(0,1)=Unsupported boatOf(0,3)=0");
        Run.run(rota + "boatOf(0,3)=0 boatOf(0,2)=1 pass(1) boatOf(0,3)=0");
        Document.says("Promise 13",
                "4 for the hours for which it waited outside with none left so far,");
        Run.run(rota + "boatOf(0,4)=1 boatOf(1,4)=0 pass(1)=1 boatOf(0,4)=1 pass(5) boatOf(0,4)=1");
        Run.run(rota + "pass(10) call(0,2) boatOf(0,4)=1 pass(1) boatOf(0,4)=1 pass(1) boatOf(0,4)=2",
                "pass(1) boatOf(0,4)=2");
        Document.says("Promise 13", "5 for its coxswain, -1 if it is not out,");
        Run.run(rota + "boatOf(0,5)=2 boatOf(1,5)=-1 pass(1) boatOf(0,5)=-1 call(0,1)=3 boatOf(0,5)=3");
        Document.says("Promise 13", "6 for how often it was called out");
        Run.run(rota + "boatOf(0,6)=1 boatOf(1,6)=0 pass(1) boatOf(0,6)=1 call(0,1) boatOf(0,6)=2",
                "call(0,1)=Unsupported boatOf(0,6)=2 boatOf(1,6)=0");
        Document.says("Promise 13", "Returns the number.");
        Run.run("boat(4,5) boatOf(0,0)=4 boatOf(0,1)=5 boatOf(0,2)=0 boatOf(0,3)=0 boatOf(0,4)=0",
                "boatOf(0,5)=-1 boatOf(0,6)=0");
        Document.says("Promise 13", "Throws IndexOutOfBoundsException if there is no such boat");
        Run.fails("", "boatOf(0,0)", "IndexOutOfBounds");
        Run.fails(rota, "boatOf(2,6)", "IndexOutOfBounds");
        Run.fails("3*boat(0,2)", "boatOf(3,0)", "IndexOutOfBounds");
        for (String far : FAR) {
            Run.fails(rota, "boatOf(" + far + ",0)", "IndexOutOfBounds");
        }
        Run.fails(rota, "boatOf(2,7)", "IndexOutOfBounds");
        Document.says("Promise 13", "Throws IllegalArgumentException if what is not from 0 to 6");
        Run.fails(rota, "boatOf(0,7)", "IllegalArgument");
        for (String far : FAR) {
            Run.fails(rota, "boatOf(1," + far + ")", "IllegalArgument");
        }
    }

    /** A method of one boat throws this for every number that none has. */
    private static void noSuchBoat(String name) {
        Run.fails("", name + "(0)", "IndexOutOfBounds");
        Run.fails(TWO, name + "(1)", "IndexOutOfBounds");
        Run.fails("3*boat(0,2)", name + "(3)", "IndexOutOfBounds");
        for (String far : FAR) {
            Run.fails(TWO, name + "(" + far + ")", "IndexOutOfBounds");
        }
    }

    private static void promise14() {
        Document.says("Promise 14", "Returns the members who are out with a boat.");
        Run.run(TWO + "member(0) crew(0)=0 call(0,2) crew(0)=3 pass(1) crew(0)=3 pass(1) crew(0)=0");
        Document.says("Promise 14", "boat: the boat");
        Run.run("3*member(0) 3*member(2) 3*boat(0,2) call(0,1) call(2,2) crew(0)=9 crew(1)=0",
                "crew(2)=18 pass(1) crew(0)=0 crew(2)=18");
        Document.says("Promise 14", "Returns the set of them, bit k for the member k.");
        Run.run("8*member(0) leave(0) 2*member(2) boat(0,2) call(0,1)=8 crew(0)=258 leave(9)");
        Run.run("9*member(1) member(2) boat(0,2) leave(0) leave(1) leave(2) leave(3) leave(4)",
                "leave(5) leave(6) leave(7) call(0,1)=9 crew(0)=768");
        Run.run("5*member(1) member(2) boat(0,6) call(0,1) crew(0)=63");
        Document.says("Promise 14", "Throws IndexOutOfBoundsException if there is no such boat");
        noSuchBoat("crew");
    }

    private static void promise15() {
        Document.says("Promise 15", "Returns the members who are able.");
        Run.run(TWO + "2*member(1) able()=15 call(0,4) able()=12 leave(3) able()=4 pass(4) able()=6",
                "pass(1) able()=7");
        Document.says("Promise 15", "Returns the set of them, bit k for the member k.");
        Run.run("able()=0 member(0) able()=1 member(0) able()=3 7*member(0) able()=511 member(0)",
                "able()=1023 leave(0) able()=1022 leave(9) able()=510");
    }

    private static void promise16() {
        Document.says("Promise 16", "Returns the crew that would be chosen for a boat now,"
                + " whatever the tide, the oars, and whether it is out.");
        Run.run("member(2) member(0) boat(6,2) wouldRefuse(0)=7 wouldGo(0)=3");
        Run.run(FIVES + "call(0,9) wouldRefuse(1)=11 wouldGo(1)=992");
        Run.run(FIVES + "call(0,9) wouldRefuse(0)=5 wouldGo(0)=992");
        Run.run("2*member(0) 2*member(2) boat(6,2) pass(6) call(0,9) pass(3) wouldGo(0)=10");
        Document.says("Promise 16", "boat: the boat");
        Run.run("6*member(1) member(2) boat(0,2) boat(0,3) boat(0,6) wouldGo(0)=65 wouldGo(1)=67",
                "wouldGo(2)=95");
        Document.says("Promise 16", "Returns the set of its members, bit k for the member k.");
        Run.run("8*member(0) member(1) member(2) boat(0,2) boat(0,3) boat(0,4) wouldGo(0)=513",
                "wouldGo(1)=769 wouldGo(2)=771");
        Document.says("Promise 16", "Throws IndexOutOfBoundsException if there is no such boat");
        noSuchBoat("wouldGo");
        Document.says("Promise 16",
                "Throws NoSuchElementException if it would be refused for the reason 8, 9 or 10");
        noCrew("wouldGo");
    }

    /** One step from a crew that would do, in each of the three ways. */
    private static void noCrew(String name) {
        String call = name + "(0)";
        Run.fails("6*member(1) boat(0,5)", call, "NoSuchElement");
        Run.fails("boat(0,2)", call, "NoSuchElement");
        Run.fails("member(2) 3*member(1) boat(0,5)", call, "NoSuchElement");
        Run.fails("member(2) member(1) 8*member(0) boat(0,5)", call, "NoSuchElement");
        Run.fails(TWO + "call(0,9)", call, "NoSuchElement");
        Run.fails(TWO + "call(0,4) pass(4)", call, "NoSuchElement");
        Run.run("member(2) 2*member(1) 2*member(0) boat(6,5)", call);
    }

    private static void promises17And18() {
        Document.says("Promise 17", "Returns how weary this crew is together.");
        Run.run(TWO + "weariness(0)=0 call(0,1) pass(1) wouldGo(0)=3 weariness(0)=3 pass(1)",
                "weariness(0)=1 pass(1) weariness(0)=0");
        Document.says("Promise 17", "boat: the boat");
        Document.says("Promise 17", "Returns the sum.");
        sums("weariness");
        Document.says("Promise 17", "Throws IndexOutOfBoundsException if there is no such boat");
        noSuchBoat("weariness");
        Document.says("Promise 17",
                "Throws NoSuchElementException if it would be refused for the reason 8, 9 or 10");
        noCrew("weariness");
        Document.says("Promise 18", "Returns the same by a second way: the least sum of all crews"
                + " that would do, of whom one is a coxswain and of the others enough have a skill"
                + " of 1 or 2.");
        Run.run(TWO + "wearinessAgain(0)=0 call(0,1) pass(1) wearinessAgain(0)=3 pass(1)",
                "wearinessAgain(0)=1 pass(1) wearinessAgain(0)=0");
        // Without a weary coxswain, and without the weary oar, others would be less weary.
        Run.run("member(2) 9*member(0) boat(0,2) call(0,3) pass(3) wearinessAgain(0)=6");
        Run.run("member(2) member(1) 8*member(0) boat(0,3) call(0,3) pass(3) wearinessAgain(0)=9");
        Document.says("Promise 18", "boat: the boat");
        Document.says("Promise 18", "Returns the sum.");
        sums("wearinessAgain");
        Document.says("Promise 18", "Throws IndexOutOfBoundsException if there is no such boat");
        noSuchBoat("wearinessAgain");
        Document.says("Promise 18",
                "Throws NoSuchElementException if it would be refused for the reason 8, 9 or 10");
        noCrew("wearinessAgain");
    }

    /** 0 is as weary as 6 behind three hours, and 1 as 3; the tide and the oars do not matter. */
    private static void sums(String name) {
        String rota = "member(2) 4*member(1) boat(0,2) boat(6,4) boat(0,5) call(0,3) pass(3) ";
        Run.run(rota + name + "(0)=6 " + name + "(1)=6 " + name + "(2)=9");
        Run.run(rota + "leave(4) " + name + "(0)=6 " + name + "(1)=9 " + name + "(2)=NoSuchElement");
        Run.run(FIVES + "call(0,9) " + name + "(1)=0 " + name + "(0)=0");
        Run.run(TWO + "call(0,9) pass(9) limit(20) " + name + "(0)=27");
    }

    /** Many states, some of them with several coxswains and with weary oars. */
    private static void promise18AllCrews() {
        Document.says("Promise 18", "Returns the same by a second way");
        java.util.Random dice = new java.util.Random(18);
        for (int k = 0; k < 300; k++) {
            StringBuilder rota = new StringBuilder("limit(20) member(2) member(1) ");
            for (int member = 2; member < 10; member++) {
                rota.append("member(").append(dice.nextInt(3)).append(") ");
            }
            rota.append("boat(0,").append(2 + dice.nextInt(3)).append(") boat(0,2) boat(6,")
                    .append(2 + dice.nextInt(5)).append(") ");
            for (int hour = 0; hour < 7; hour++) {
                rota.append("call(").append(dice.nextInt(2)).append(',')
                        .append(1 + dice.nextInt(5)).append(")? pass(1) ");
            }
            Run.sameAnswers(rota + "pass(3)", "weariness(2)", "wearinessAgain(2)");
        }
    }

    private static void promise19() {
        Document.says("Promise 19",
                "Returns for which reason a boat would not be called out now.");
        Run.run("member(2) member(0) boat(2,2) wouldRefuse(0)=7 pass(1) wouldRefuse(0)=7 pass(1)",
                "wouldRefuse(0)=0 call(0,9) wouldRefuse(0)=5 pass(8) wouldRefuse(0)=5");
        Document.says("Promise 19", "boat: the boat");
        Run.run(TWO + "boat(6,2) boat(0,3) wouldRefuse(0)=0 wouldRefuse(1)=7 wouldRefuse(2)=9",
                "call(0,1) wouldRefuse(0)=5 wouldRefuse(1)=7 wouldRefuse(2)=8");
        Document.says("Promise 19", "Returns 5, or 7 to 11; 0 if it would be called out.");
        Run.run(TWO + "wouldRefuse(0)=0 call(0,1) wouldRefuse(0)=5");
        Run.run("boat(1,2) wouldRefuse(0)=7 pass(1) wouldRefuse(0)=8");
        Run.run("member(2) boat(0,2) wouldRefuse(0)=9 member(0) wouldRefuse(0)=0");
        Run.run("member(2) 2*member(0) boat(0,3) wouldRefuse(0)=10 train(1) wouldRefuse(0)=0");
        Run.run(FIVES + "call(0,9) wouldRefuse(1)=11 borrow(1,9) wouldRefuse(1)=11 borrow(1,9)",
                "wouldRefuse(1)=0");
        // The first that applies, of several.
        Run.run("member(2) member(0) boat(6,2) pass(6) call(0,9) pass(6) wouldRefuse(0)=5");
        Run.run("boat(1,2) wouldRefuse(0)=7 pass(1) wouldRefuse(0)=8 member(2) wouldRefuse(0)=9",
                "member(0) wouldRefuse(0)=0");
        // It keeps no reason, and changes nothing.
        Run.run("boat(1,2) wouldRefuse(0)=7 reason(false,false)=NoSuchElement");
        Run.leaves(TWO + "leave(9)=Unsupported call(0,2) line(0)", "wouldRefuse(0)");
        Document.says("Promise 19", "Throws IndexOutOfBoundsException if there is no such boat");
        noSuchBoat("wouldRefuse");
    }

    private static void promise20() {
        Document.says("Promise 20", "Returns in how many hours a boat could be called out, if only"
                + " hours go by: the first time.");
        Run.run("member(2) member(0) boat(4,2) callableIn(0)=4 pass(3) callableIn(0)=1 pass(1)",
                "callableIn(0)=0 pass(4) callableIn(0)=0 pass(1) callableIn(0)=7");
        // Out until the hour 3, and then as weary as 6 and 3, below the limit.
        Run.run(TWO + "call(0,3) callableIn(0)=3 pass(1) callableIn(0)=2 pass(2) callableIn(0)=0");
        // In at the hour 4, as weary as 8: below the limit an hour later.
        Run.run(TWO + "call(0,4) callableIn(0)=5 pass(4) callableIn(0)=1 pass(1) callableIn(0)=0");
        // Another boat brings the coxswain, or the oars.
        Run.run(TWO + "boat(0,2) call(0,2) callableIn(1)=2");
        Run.run(FIVES + "call(0,3) callableIn(1)=3 borrow(2,9) callableIn(1)=0");
        Run.run(FIVES + "borrow(2,1) callableIn(0)=0 call(0,5) callableIn(1)=0 pass(1) callableIn(1)=4");
        Run.leaves(TWO + "leave(9)=Unsupported call(0,4) line(0) text(m1)", "callableIn(0)");
        Document.says("Promise 20", "boat: the boat");
        Run.run(TWO + "boat(3,2) boat(6,2) callableIn(0)=0 callableIn(1)=3 callableIn(2)=6");
        Document.says("Promise 20", "Returns how many, 0 if it could be now.");
        Run.run(TWO + "callableIn(0)=0 boat(1,2) callableIn(1)=1 pass(11) callableIn(1)=0 pass(1)",
                "callableIn(1)=1");
        Document.says("Promise 20", "Throws IndexOutOfBoundsException if there is no such boat");
        noSuchBoat("callableIn");
    }

    /** In the hour 42 the boat comes in, its coxswain as weary as 39; it is rested at 81. */
    private static void promise20TheLastHours() {
        Document.says("Promise 20", "Throws NoSuchElementException if it could not in 48 hours");
        Run.run(IN_48 + "callableIn(0)=48");
        Run.run(IN_48 + "pass(1) callableIn(0)=47 pass(46) callableIn(0)=1 pass(1) callableIn(0)=0");
        Run.fails(IN_49, "callableIn(0)", "NoSuchElement");
        Run.run(IN_48 + "callableIn(1)=39");
        Run.run(IN_49 + "callableIn(1)=40");
        Run.fails("boat(0,2)", "callableIn(0)", "NoSuchElement");
        Run.fails("member(2) boat(0,2)", "callableIn(0)", "NoSuchElement");
        Run.fails("member(2) 9*member(0) boat(0,3)", "callableIn(0)", "NoSuchElement");
        Run.fails("member(2) 9*member(0) boat(0,6) boat(0,2) call(1,1)", "callableIn(0)",
                "NoSuchElement");
        Run.run("member(2) 2*member(1) 7*member(0) boat(0,6) callableIn(0)=0");
    }

    /** The reading that 48 itself is still an answer; the 49th hour is none. */
    private static void promise20FortyEightIsAnAnswer() {
        Document.says("Promise 20", "if it could not in 48 hours");
        Run.run(IN_48 + "callableIn(0)=48 pass(48) wouldRefuse(0)=0");
        Run.run(IN_49 + "callableIn(0)=NoSuchElement pass(49) wouldRefuse(0)=0");
        Run.run(IN_49 + "pass(48) wouldRefuse(0)=7");
    }
}
