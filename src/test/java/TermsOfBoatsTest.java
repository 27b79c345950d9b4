/** "Terms" up to "Call-outs": every sentence, with its edges. */
public final class TermsOfBoatsTest {
    /** A coxswain and a hand, and a boat of two that goes at any tide. */
    private static final String TWO = "member(2) member(0) boat(0,2) ";

    public static void main(String[] args) {
        terms();
        tides();
        members();
        boats();
        choosing();
        callOuts();
        Document.allTold("Terms", "Tides", "Members", "Boats", "Choosing", "Call-outs");
        Check.end("TermsOfBoatsTest");
    }

    /** A coxswain, so many oars, six hands, and a boat. */
    private static String crew(int oars, int draft, int seats) {
        return "member(2) " + oars + "*member(1) 6*member(0) boat(" + draft + "," + seats + ") ";
    }

    private static void terms() {
        noBoatWithoutACoxswain();
        roundedDown();
        somethingElseIsTold();
    }

    private static void noBoatWithoutACoxswain() {
        Document.says("Terms", "No boat goes without a coxswain.");
        Run.refused("5*member(1) boat(0,2)", "call(0,1)", 8, 0);
        Run.run("5*member(1) boat(0,2) train(4) call(0,1)=4");
        String one = "member(2) 3*member(1) 2*boat(0,2) ";
        Run.refused(one + "call(0,9)", "call(1,1)", 8, 0);
        Run.refused(one + "leave(0)", "call(0,1)", 8, 0);
        Run.refused(one + "call(0,4) pass(4)", "call(0,1)", 8, 0);
        Run.run(one + "call(0,4) pass(5) call(0,1)=0");
    }

    private static void roundedDown() {
        Document.says("Terms", "Divisions are rounded down");
        Run.run(crew(0, 0, 2), "wouldRefuse(0)=0");
        Run.run(crew(0, 0, 3), "wouldRefuse(0)=10");
        Run.run(crew(1, 0, 4), "wouldRefuse(0)=0");
        Run.run(crew(1, 0, 5), "wouldRefuse(0)=10");
        Run.run(crew(2, 0, 6), "wouldRefuse(0)=0");
    }

    private static void somethingElseIsTold() {
        Document.says("Terms", "unless something else is told.");
        Run.run(TWO + "member(0) call(0,2) pass(2) meanWeariness()=2.0 pass(1)",
                "meanWeariness()=1.3333333333333333");
        Run.run(TWO + "call(0,1) outShare()=0.16666667");
    }

    private static void tides() {
        Document.says("Tides", "Hours are counted from 0.");
        Run.run("account(0)=0 save()=0 pass(1) account(0)=1 save()=1 pass(99) account(0)=100");
        heights();
        Document.says("Tides", "So it is 0 in the hour 0, and 6 in the hour 6.");
        Run.run("height(0)=0 height(6)=6 pass(6) height(0)=6");
    }

    private static void heights() {
        Document.says("Tides", "The height of the water in an hour is by what is left when its"
                + " number is divided by 12: that itself up to 6, and 12 less that otherwise.");
        int[] due = {0, 1, 2, 3, 4, 5, 6, 5, 4, 3, 2, 1};
        for (int hour = 0; hour <= 99; hour++) {
            Run.run("height(" + hour + ")=" + due[hour % 12]);
        }
        for (int hour = 1; hour <= 25; hour++) {
            Run.run("pass(" + hour + ") height(0)=" + due[hour % 12]);
        }
        Run.run("400*pass(99) height(0)=0 height(5)=5 height(6)=6 height(7)=5 height(11)=1",
                "height(12)=0 height(13)=1");
        Run.run("pass(11) height(0)=1 pass(1) height(0)=0 pass(1) height(0)=1");
    }

    private static void members() {
        atMostTen();
        Document.says("Members",
                "A member is ashore, as at first; out with a boat; or gone, for good.");
        Run.run(TWO + "memberOf(0,1)=0 call(0,1) memberOf(0,1)=1 pass(1) memberOf(0,1)=0",
                "leave(0) memberOf(0,1)=2 pass(99) memberOf(0,1)=2 member(2)=2 memberOf(0,1)=2");
        Run.refused("member(2) leave(0)", "leave(0)", 4, 0);
        Run.refused("member(0) leave(0)", "train(0)", 4, 0);
        Document.says("Members", "A member has a weariness, 0 at first.");
        Run.run("10*member(1)", zeros("memberOf(%d,2)=0 ", 10), "meanWeariness()=0.0");
        Run.run(TWO + "call(0,9) pass(9) member(0)=2 memberOf(2,2)=0");
        ableBelowTheLimit();
        Document.says("Members", "which is from 1 to 20, at first 8.");
        Run.run("account(10)=8");
        Run.refused("", "limit(8)", 6, 0);
        Run.run("limit(1)=8 account(10)=1 limit(20)=1 account(10)=20");
        Run.refused("", "limit(0)", 1, 0);
        Run.refused("", "limit(21)", 1, 0);
    }

    private static String zeros(String call, int count) {
        StringBuilder out = new StringBuilder();
        for (int k = 0; k < count; k++) {
            out.append(String.format(call, k));
        }
        return out.toString();
    }

    private static void atMostTen() {
        Document.says("Members", "At most 10 members come, numbered from 0, each with a skill:"
                + " 0 for a hand, 1 for an oar, or 2 for a coxswain.");
        Run.run("account(1)=0 memberOf(0,0)=IndexOutOfBounds");
        Run.run("member(0)=0 member(1)=1 member(2)=2 memberOf(0,0)=0 memberOf(1,0)=1",
                "memberOf(2,0)=2 memberOf(3,0)=IndexOutOfBounds");
        Run.run("9*member(0) account(1)=9 member(1)=9 account(1)=10 memberOf(9,0)=1");
        Run.refused("10*member(0)", "member(1)", 2, 10);
        Run.refused("10*member(0) leave(3)", "member(1)", 2, 10);
        Run.refused("", "member(-1)", 1, 0);
        Run.refused("", "member(3)", 1, 0);
    }

    private static void ableBelowTheLimit() {
        Document.says("Members", "A member is able if it is ashore, and its weariness is less"
                + " than the limit");
        Run.run(TWO + "able()=3 memberOf(0,4)=1 call(0,4) able()=0 memberOf(0,4)=0 pass(4)");
        Run.run(TWO + "able()=3 leave(1) able()=1 memberOf(1,4)=0");
        // The coxswain is as weary as 8 in the hour 4, and the hand as 4.
        Run.run(TWO + "call(0,4) pass(4) memberOf(0,2)=8 memberOf(0,4)=0 able()=2 pass(1)",
                "memberOf(0,2)=7 memberOf(0,4)=1 able()=3");
        Run.run(TWO + "call(0,9) pass(9) memberOf(1,2)=9 able()=0 pass(1) memberOf(1,2)=8",
                "able()=0 pass(1) memberOf(1,2)=7 able()=2");
        Run.run(TWO + "call(0,1) pass(1) memberOf(1,2)=1 limit(1) able()=0 pass(1) able()=2",
                "pass(1) able()=3");
        Run.run(TWO + "limit(20) call(0,9) pass(9) memberOf(0,2)=18 able()=3 call(0,1) pass(1)",
                "memberOf(0,2)=20 able()=2 pass(1) memberOf(0,2)=19 able()=3");
    }

    private static void boats() {
        atMostThree();
        goesAtItsDraft();
        comesInAtItsDraft();
        asManyAsSeats();
        Document.says("Boats", "of whom one is its coxswain");
        Run.refused("4*member(1) boat(0,2)", "call(0,1)", 8, 0);
        Run.run("3*member(1) member(2) boat(0,2) call(0,1)=3 boatOf(0,5)=3 memberOf(3,7)=1");
        Run.run("3*member(2) boat(0,3) call(0,1)=0 memberOf(0,7)=1 memberOf(1,7)=0 crew(0)=7");
        atLeastHalf();
        seatsLessOneOars();
    }

    private static void atMostThree() {
        Document.says("Boats", "At most 3 boats come, numbered from 0");
        Run.run("account(3)=0 boatOf(0,0)=IndexOutOfBounds boat(1,2)=0 boat(2,3)=1",
                "account(3)=2 boatOf(2,0)=IndexOutOfBounds boat(3,4)=2 account(3)=3",
                "boatOf(0,0)=1 boatOf(1,0)=2 boatOf(2,0)=3 boatOf(3,0)=IndexOutOfBounds");
        Run.refused("3*boat(0,2)", "boat(0,2)", 2, 3);
        Document.says("Boats", "each with a draft from 0 to 6");
        Run.run("boat(0,2)=0 boatOf(0,0)=0 boat(6,2)=1 boatOf(1,0)=6");
        Run.refused("", "boat(-1,2)", 1, 0);
        Run.refused("", "boat(7,2)", 1, 0);
        Document.says("Boats", "and with 2 to 6 seats.");
        Run.run("boat(0,2)=0 boatOf(0,1)=2 boat(0,6)=1 boatOf(1,1)=6");
        Run.refused("", "boat(0,1)", 1, 0);
        Run.refused("", "boat(0,7)", 1, 0);
    }

    private static void goesAtItsDraft() {
        Document.says("Boats", "A boat can go");
        for (int draft = 1; draft <= 6; draft++) {
            String rota = "member(2) member(0) boat(" + draft + ",2) ";
            String below = draft == 1 ? rota : rota + "pass(" + (draft - 1) + ") ";
            Run.refused(below, "call(0,1)", 7, 1);
            Run.run(rota + "pass(" + draft + ") call(0,1)=0");
            if (draft < 6) {
                Run.run(rota + "pass(" + (draft + 1) + ") call(0,1)=0");
                Run.run(rota + "pass(" + (12 - draft) + ") call(0,1)=0");
            }
            Run.refused(rota + "pass(" + (13 - draft) + ")", "call(0,1)", 7, 1);
        }
        Run.run(TWO + "height(0)=0 call(0,1)=0");
    }

    private static void comesInAtItsDraft() {
        Document.says("Boats", ", and come in, in an hour in which the water is at least as high"
                + " as its draft.");
        String rota = "member(2) member(0) boat(3,2) ";
        Run.run(rota + "pass(7) call(0,1) pass(1)=1");
        Run.run(rota + "pass(8) call(0,1) pass(1)=1 height(0)=3");
        Run.run(rota + "pass(9) call(0,1) pass(1)=0 height(0)=2 boatOf(0,2)=1 pass(4)=0",
                "height(0)=2 boatOf(0,2)=1 pass(1)=1 height(0)=3 boatOf(0,2)=0");
        Run.run(TWO + "pass(11) call(0,1) pass(1)=1 height(0)=0");
        Run.run("member(2) member(0) boat(6,2) pass(6) call(0,1) pass(11)=0 pass(1)=1");
    }

    private static void asManyAsSeats() {
        Document.says("Boats", "It needs as many members as it has seats");
        for (int seats = 2; seats <= 6; seats++) {
            String boat = "boat(0," + seats + ") member(2) ";
            Run.refused(boat, "call(0,1)", 9, seats - 1);
            Run.refused(boat + (seats - 2) + "*member(1)", "call(0,1)", 9, 1);
            int all = (1 << seats) - 1;
            Run.run(boat + (seats - 1) + "*member(1) call(0,1)=0 crew(0)=" + all);
            Run.run(boat + seats + "*member(1) call(0,1)=0 crew(0)=" + all);
        }
    }

    private static void atLeastHalf() {
        Document.says("Boats", "and of the others at least half, rounded down, have a skill of 1"
                + " or 2");
        int[] half = {0, 0, 0, 1, 1, 2, 2};
        for (int seats = 2; seats <= 6; seats++) {
            int due = half[seats];
            for (int oars = 0; oars < due; oars++) {
                Run.refused(crew(oars, 0, seats), "call(0,1)", 10, due - oars);
            }
            Run.run(crew(due, 0, seats) + "call(0,1)=0");
            Run.run(crew(due + 1, 0, seats) + "call(0,1)=0");
        }
        Run.run("2*member(2) 6*member(0) boat(0,3) call(0,1)=0 crew(0)=7");
        Run.run("2*member(2) member(1) 6*member(0) boat(0,5) call(0,1)=0 crew(0)=31");
        Run.refused("2*member(2) 6*member(0) boat(0,5)", "call(0,1)", 10, 1);
    }

    /** A first boat of 5 or 6 seats takes 4 or 5 of the station's 6 oars. */
    private static void seatsLessOneOars() {
        Document.says("Boats", "and as many oars as it has seats, less one.");
        for (int seats = 2; seats <= 6; seats++) {
            Run.run(crew(3, 0, seats) + "call(0,1) free()=" + (7 - seats));
        }
        String rota = "member(2) 4*member(1) member(2) 4*member(1) boat(0,5) boat(0,2) boat(0,4) ";
        Run.run(rota + "call(0,9) free()=2 wouldRefuse(1)=0 wouldRefuse(2)=11");
        Run.refused(rota + "call(0,9)", "call(2,1)", 11, 1);
        Run.run(rota + "call(0,9) borrow(1,9) free()=3 call(2,1)=5 free()=0");
        Run.run(rota + "call(0,9) borrow(2,9) free()=4 call(2,1)=5 free()=1");
    }

    private static void choosing() {
        ofThoseWhoAreAble();
        firstTheCoxswain();
        thenTheSkilled();
        thenTheRest();
        theLowestOfSeveral();
    }

    private static void ofThoseWhoAreAble() {
        Document.says("Choosing", "The crew of a boat is chosen of those who are able:");
        String rota = "2*member(2) 3*member(0) 2*boat(0,2) ";
        Run.run(rota + "wouldGo(0)=3 leave(0) wouldGo(0)=6 leave(2) wouldGo(0)=10");
        Run.run("2*member(0) 2*member(2) 2*boat(0,2) call(0,9)=2 crew(0)=5 call(1,1)=3",
                "crew(1)=10");
        // Behind four hours 3 is as weary as 8, and 0 as 4; the limit 4 leaves 1, 2 and 4.
        Run.run("3*member(0) 2*member(2) boat(0,2) call(0,4)=3 pass(4) limit(4) able()=22",
                "wouldGo(0)=18 limit(5) able()=23 wouldGo(0)=18");
    }

    private static void firstTheCoxswain() {
        Document.says("Choosing",
                "first the coxswain, the least weary of those with the skill 2;");
        String rota = "3*member(0) 2*member(2) boat(0,2) ";
        Run.run(rota + "call(0,1)=3 pass(1) memberOf(3,2)=2 memberOf(4,2)=0 call(0,1)=4");
        Run.run(rota + "call(0,1)=3 pass(2) memberOf(3,2)=1 memberOf(4,2)=0 call(0,1)=4");
        Run.run(rota + "call(0,1)=3 pass(3) memberOf(3,2)=0 memberOf(4,2)=0 call(0,1)=3");
        // 3 is as weary as 1, and 4 as 2: the lower number is the less weary one.
        Run.run(rota + "call(0,1)=3 pass(1) call(0,1)=4 pass(1) memberOf(3,2)=1",
                "memberOf(4,2)=2 call(0,1)=3");
        // A hand and an oar who are less weary do not become the coxswain.
        Run.run("member(2) member(0) member(1) boat(0,2) call(0,3) pass(4) memberOf(0,2)=5",
                "call(0,1)=0");
    }

    private static void thenTheSkilled() {
        Document.says("Choosing", "then as many of the others with a skill of 1 or 2 as must have"
                + " it, the least weary first;");
        // The first trip is made by 4, by 2 or 1 for the skill, and by 0.
        String rota = "2*member(0) 2*member(1) 2*member(2) boat(0,3) boat(0,5) boat(0,4) ";
        Run.run(rota + "wouldGo(0)=21 wouldGo(2)=23 wouldGo(1)=31");
        Run.run(rota + "call(0,1)=4 pass(1) memberOf(2,2)=1 memberOf(3,2)=0 wouldGo(0)=42");
        // As many as must: one of three seats, and the hand 0 though the oar 3 is as fresh.
        Run.run("member(0) member(2) member(1) member(1) boat(0,3) wouldGo(0)=7");
        // The lowest, whether it is another coxswain or an oar.
        Run.run("member(0) 2*member(2) member(1) boat(0,3) wouldGo(0)=7");
        Run.run("member(0) member(2) member(1) member(2) boat(0,3) wouldGo(0)=7");
        // Another coxswain does as one with a skill, and goes before an oar who is wearier.
        Run.run("2*member(0) 2*member(2) 2*member(0) boat(0,3) wouldGo(0)=13");
        Run.run("member(1) 3*member(2) 3*member(0) boat(0,2) boat(0,3) call(0,1)=1 pass(1)",
                "memberOf(0,2)=1 memberOf(1,2)=2 memberOf(2,2)=0 wouldGo(1)=28 leave(3)",
                "wouldGo(1)=21");
        // The oar is far wearier than the hands, and goes all the same.
        Run.run("member(2) member(0) member(1) 4*member(0) boat(0,3) call(0,6) pass(6) limit(20)",
                "memberOf(2,2)=6 memberOf(1,2)=6 memberOf(3,2)=0 wouldGo(0)=13");
    }

    private static void thenTheRest() {
        Document.says("Choosing",
                "then the least weary of all who are left, until all seats are taken;");
        String rota = "member(2) 3*member(1) 4*member(0) boat(0,2) boat(0,5) boat(0,6) ";
        Run.run(rota + "wouldGo(0)=3 wouldGo(1)=31 wouldGo(2)=63");
        // 1 and 0 are weary behind the first trip, so those with the numbers behind them go.
        Run.run(rota + "call(0,1) pass(1) wouldGo(0)=5 wouldGo(1)=61 wouldGo(2)=125");
        // Skilled ones who are left and hands are alike: the least weary go, whoever it is.
        Run.run("member(2) 2*member(0) 3*member(1) boat(0,2) boat(0,4) call(0,1) pass(1)",
                "memberOf(1,2)=1 wouldGo(1)=29");
        Run.run("member(2) member(0) member(1) boat(0,3) wouldGo(0)=7");
    }

    private static void theLowestOfSeveral() {
        Document.says("Choosing", "each time of several the lowest one.");
        Run.run("2*member(0) 2*member(1) 3*member(2) boat(0,2) boat(0,4) boat(0,6)",
                "wouldGo(0)=17 wouldGo(1)=23 wouldGo(2)=63");
        Run.run("3*member(2) 2*member(1) 2*member(0) boat(0,2) boat(0,4) boat(0,6)",
                "wouldGo(0)=3 wouldGo(1)=15 wouldGo(2)=63");
        Run.run("10*member(2) boat(0,6) wouldGo(0)=63");
    }

    private static void callOuts() {
        outFromThenOn();
        Document.says("Call-outs", "Its hours left become 1 less in each hour;");
        Run.run(TWO + "call(0,3) boatOf(0,3)=3 pass(1) boatOf(0,3)=2 pass(1) boatOf(0,3)=1",
                "pass(1) boatOf(0,3)=0");
        Run.run("member(2) member(0) boat(1,2) pass(11) call(0,1) pass(1) boatOf(0,3)=0",
                "boatOf(0,2)=1 pass(1) boatOf(0,3)=0 boatOf(0,2)=0");
        asSoonAsItCan();
        Document.says("Call-outs", "and its crew is ashore, its oars are back.");
        Run.run(TWO + "call(0,2) pass(1) crew(0)=3 free()=5 memberOf(0,1)=1 pass(1) crew(0)=0",
                "free()=6 memberOf(0,1)=0 memberOf(1,1)=0 memberOf(0,3)=-1 boatOf(0,5)=-1");
    }

    private static void outFromThenOn() {
        Document.says("Call-outs", "A boat that is called out for some hours, 1 to 9, is out from"
                + " then on, with its crew and its oars.");
        Run.refused(TWO, "call(0,0)", 1, 0);
        Run.run(TWO + "call(0,1)=0 boatOf(0,3)=1 pass(1)=1");
        Run.run(TWO + "call(0,9)=0 boatOf(0,3)=9 pass(8)=0 pass(1)=1");
        Run.refused(TWO, "call(0,10)", 1, 0);
        Run.run(TWO + "member(0) boatOf(0,2)=0 crew(0)=0 free()=6 call(0,1) boatOf(0,2)=1",
                "crew(0)=3 memberOf(0,1)=1 memberOf(1,1)=1 memberOf(2,1)=0 free()=5");
    }

    private static void asSoonAsItCan() {
        Document.says("Call-outs", "when there are none left, it comes in as soon as it can,");
        Run.run(TWO + "call(0,2) pass(1)=0 boatOf(0,2)=1 pass(1)=1 boatOf(0,2)=0 pass(1)=0");
        String deep = "member(2) member(0) boat(5,2) pass(5) ";
        Run.run(deep + "call(0,1) pass(1)=1");
        Run.run(deep + "call(0,2) pass(1)=0 pass(1)=1");
        Run.run(deep + "call(0,3) pass(3)=0 boatOf(0,2)=1 pass(8)=0 boatOf(0,2)=1 pass(1)=1");
        Run.run(deep + "call(0,9) pass(11)=0 boatOf(0,2)=1 pass(1)=1 boatOf(0,2)=0");
    }
}
