import java.util.NoSuchElementException;

/** Promises 7, 8, 10, 11, 21 to 24 and 34: hours, tides, boats that come home, and oars. */
public final class HoursTest {
    public static void main(String[] args) {
        promise7Borrow();
        promise8GiveBack();
        promise10Pass();
        promise10Weariness();
        promise10Waiting();
        promise10Loans();
        promise10BoatsBeforeLoans();
        promise11Height();
        promises21And22HomeIn();
        homeFromEveryHour();
        promise23LoanOf();
        promise24Free();
        promise34OutShare();
        Check.end("HoursTest");
    }

    /** Enough members for any two boats, and the boats' drafts, each with so many seats. */
    private static BoatRota rota(int seats, int... drafts) {
        BoatRota rota = new BoatRota();
        int[] skills = {2, 1, 0, 0, 2, 1, 1, 0, 2, 0};
        for (int skill : skills) {
            rota.member(skill);
        }
        for (int draft : drafts) {
            rota.boat(draft, seats);
        }
        return rota;
    }

    private static void promise7Borrow() {
        BoatRota rota = new BoatRota();
        Check.refused("borrow(0, 1)", rota, 1, 0, () -> rota.borrow(0, 1));
        Check.refused("borrow(10, 1)", rota, 1, 0, () -> rota.borrow(10, 1));
        Check.refused("borrow(1, 0)", rota, 1, 0, () -> rota.borrow(1, 0));
        Check.refused("borrow(1, 49)", rota, 1, 0, () -> rota.borrow(1, 49));
        Check.same("borrow(9, 48)", 0, rota.borrow(9, 48));
        Check.same("borrow(1, 1)", 1, rota.borrow(1, 1));
        Check.same("all oars", 16, rota.account(6));
        rota.borrow(2, 2);
        Check.same("the fourth", 3, rota.borrow(2, 3));
        Check.same("the loans", 4, rota.account(5));
        Check.refused("the fifth", rota, 2, 4, () -> rota.borrow(1, 1));
        Check.refused("the hours before the number", rota, 1, 0, () -> rota.borrow(1, 0));
        rota.giveBack(2);
        Check.same("again a fourth", 3, rota.borrow(5, 5));
        Check.same("it is not late", 0, rota.loanOf(3, 2));
    }

    private static void promise8GiveBack() {
        BoatRota rota = rota(5, 0, 0);
        Check.refused("giveBack(0)", rota, 3, 0, () -> rota.giveBack(0));
        Check.refused("giveBack(-1)", rota, 3, -1, () -> rota.giveBack(-1));
        rota.borrow(5, 9);
        rota.borrow(2, 8);
        rota.borrow(3, 7);
        Check.refused("giveBack(3)", rota, 3, 3, () -> rota.giveBack(3));
        Check.same("giveBack(1)", 14, rota.giveBack(1));
        Check.same("the later number is one less", 3, rota.loanOf(1, 0));
        Check.same("with its hours", 7, rota.loanOf(1, 1));
        Check.same("an earlier one stays", 5, rota.loanOf(0, 0));
        rota.call(0, 9);
        rota.call(1, 9);
        Check.same("free", 6, rota.free());
        Check.same("giveBack(0)", 1, rota.giveBack(0));
        Check.refused("too few are free: 2", rota, 11, 2, () -> rota.giveBack(0));
        rota.borrow(1, 1);
        Check.refused("too few are free: 1", rota, 11, 1, () -> rota.giveBack(0));
        rota.borrow(1, 1);
        Check.same("just enough", 0, rota.giveBack(0));
    }

    private static void promise10Pass() {
        BoatRota rota = rota(2, 0, 0, 3);
        Check.refused("pass(0)", rota, 1, 0, () -> rota.pass(0));
        Check.refused("pass(100)", rota, 1, 0, () -> rota.pass(100));
        Check.refused("pass(-1)", rota, 1, 0, () -> rota.pass(-1));
        Check.same("pass(99)", 0, rota.pass(99));
        Check.same("the hour", 99, rota.account(0));
        rota.call(0, 1);
        rota.call(1, 3);
        rota.call(2, 8);
        Check.same("pass(1)", 1, rota.pass(1));
        Check.same("pass(2)", 1, rota.pass(2));
        rota.call(0, 9);
        Check.same("pass(8), while the third waits for the tide", 0, rota.pass(8));
        Check.same("none left", 0, rota.boatOf(2, 3));
        Check.same("two are out", 2, rota.account(4));
        Check.same("two came in", 2, rota.account(8));
        Check.same("two in an hour", 2, rota.pass(1));
        Check.same("all came in", 4, rota.account(8));
        Check.same("as many as went", 4, rota.account(7));
    }

    private static void promise10Weariness() {
        BoatRota rota = rota(3, 0);
        rota.leave(9);
        rota.call(0, 3);
        rota.pass(2);
        Check.same("the coxswain", 4, rota.memberOf(0, 2));
        Check.same("another", 2, rota.memberOf(1, 2));
        Check.same("one ashore", 0, rota.memberOf(5, 2));
        rota.pass(1);
        Check.same("also in the hour in which it comes in", 6, rota.memberOf(0, 2));
        Check.same("and its hours", 3, rota.memberOf(0, 5));
        Check.same("the other", 3, rota.memberOf(2, 2));
        rota.pass(1);
        Check.same("ashore it rests", 5, rota.memberOf(0, 2));
        Check.same("and has no more hours out", 3, rota.memberOf(0, 5));
        rota.leave(1);
        rota.pass(9);
        Check.same("down to 0", 0, rota.memberOf(0, 2));
        Check.same("one who is gone does not rest", 2, rota.memberOf(1, 2));
        coxswainAsOther();
    }

    /** A coxswain by its skill who is not the coxswain of its boat gets wearier by 1. */
    private static void coxswainAsOther() {
        BoatRota rota = new BoatRota();
        rota.member(2);
        rota.member(2);
        rota.boat(0, 2);
        rota.call(0, 2);
        rota.pass(2);
        Check.same("the coxswain of the boat", 4, rota.memberOf(0, 2));
        Check.same("a coxswain as another", 2, rota.memberOf(1, 2));
        Check.same("was called out", 1, rota.memberOf(1, 6));
        Check.same("but not as the coxswain", 0, rota.memberOf(1, 7));
    }

    private static void promise10Waiting() {
        BoatRota rota = rota(2, 5);
        rota.pass(7);
        rota.call(0, 1);
        Check.same("it does not come in", 0, rota.pass(1));
        Check.same("it waits in the hour in which its last one goes", 1, rota.boatOf(0, 4));
        Check.same("none is left", 0, rota.boatOf(0, 3));
        Check.same("it is out", 1, rota.boatOf(0, 2));
        Check.same("nor does it in 8 more", 0, rota.pass(8));
        Check.same("hours waited", 9, rota.boatOf(0, 4));
        Check.same("the first hour in which it can", 1, rota.pass(1));
        Check.same("it did not wait in that", 9, rota.boatOf(0, 4));
        Check.same("hours out", 10, rota.memberOf(0, 5));
        rota.call(0, 1);
        Check.same("called out again, it keeps them", 9, rota.boatOf(0, 4));
        rota.pass(1);
        rota.call(0, 2);
        rota.pass(2);
        Check.same("the hours add up", 10, rota.boatOf(0, 4));
        Check.same("call-outs", 3, rota.boatOf(0, 6));
    }

    private static void promise10Loans() {
        BoatRota rota = rota(5, 0, 0);
        rota.borrow(1, 2);
        rota.borrow(1, 1);
        rota.borrow(6, 1);
        rota.borrow(1, 1);
        rota.call(0, 9);
        rota.call(1, 3);
        Check.same("free", 7, rota.free());
        rota.pass(1);
        Check.same("those that are due went, without leaving one out", 2, rota.account(5));
        Check.same("the first has an hour left", 1, rota.loanOf(0, 1));
        Check.same("the last was late", 1, rota.loanOf(1, 2));
        Check.same("it is of one oar", 1, rota.loanOf(1, 0));
        Check.same("free", 0, rota.free());
        rota.pass(1);
        Check.same("both are late now", 1, rota.loanOf(0, 2));
        Check.same("the other for an hour more", 2, rota.loanOf(1, 2));
        Check.same("all late hours", 3, rota.account(9));
        Check.same("a boat comes in", 1, rota.pass(1));
        Check.same("and in that hour the loans go", 0, rota.account(5));
        Check.same("the late hours stay", 3, rota.account(9));
        rota.borrow(2, 7);
        Check.same("another loan is not late", 0, rota.loanOf(0, 2));
        rota.giveBack(0);
        Check.same("free", 2, rota.free());
        Check.same("all oars", 6, rota.account(6));
    }

    /** A loan that cannot go back does not hold up a smaller one behind it. */
    private static void promise10BoatsBeforeLoans() {
        BoatRota rota = rota(5, 0, 0);
        rota.borrow(4, 1);
        rota.borrow(2, 1);
        rota.call(0, 1);
        rota.call(1, 2);
        rota.pass(1);
        Check.same("the first boat came in before them, so one of 4 goes", 0, rota.account(5));
        Check.same("none was late", 0, rota.account(9));
        BoatRota other = rota(5, 0, 0);
        other.borrow(5, 1);
        other.borrow(1, 1);
        other.call(0, 3);
        other.call(1, 3);
        other.pass(1);
        Check.same("4 are free: the one of 5 stays", 5, other.loanOf(0, 0));
        Check.same("the one of 1 goes", 1, other.account(5));
        Check.same("one hour late", 1, other.account(9));
    }

    private static void promise11Height() {
        BoatRota rota = new BoatRota();
        int[] tide = {0, 1, 2, 3, 4, 5, 6, 5, 4, 3, 2, 1};
        for (int k = 0; k <= 99; k++) {
            Check.same("height(" + k + ")", tide[k % 12], rota.height(k));
        }
        rota.pass(8);
        Check.same("height(0) in the hour 8", 4, rota.height(0));
        Check.same("height(99) in the hour 8", 1, rota.height(99));
        Class<?> wrong = IllegalArgumentException.class;
        Check.fails("height(-1)", rota, wrong, () -> rota.height(-1));
        Check.fails("height(100)", rota, wrong, () -> rota.height(100));
        Check.fails("height(most)", rota, wrong, () -> rota.height(Integer.MAX_VALUE));
    }

    private static void promises21And22HomeIn() {
        BoatRota rota = rota(2, 4, 0);
        Class<?> none = IndexOutOfBoundsException.class;
        Check.fails("homeIn(-1)", rota, none, () -> rota.homeIn(-1));
        Check.fails("homeIn(2)", rota, none, () -> rota.homeIn(2));
        Check.fails("homeInAgain(-1)", rota, none, () -> rota.homeInAgain(-1));
        Check.fails("homeInAgain(2)", rota, none, () -> rota.homeInAgain(2));
        Class<?> in = NoSuchElementException.class;
        Check.fails("homeIn(0)", rota, in, () -> rota.homeIn(0));
        Check.fails("homeInAgain(0)", rota, in, () -> rota.homeInAgain(0));
        rota.pass(5);
        rota.call(0, 3);
        rota.call(1, 9);
        String before = View.of(rota);
        Check.same("in its last hour", 3, rota.homeIn(0));
        Check.same("again", 3, rota.homeInAgain(0));
        Check.same("at any tide", 9, rota.homeIn(1));
        Check.same("again", 9, rota.homeInAgain(1));
        Check.same("nothing changes", before, View.of(rota));
        rota.pass(3);
        rota.pass(6);
        Check.fails("it is in", rota, in, () -> rota.homeIn(0));
        Check.fails("it is in, again", rota, in, () -> rota.homeInAgain(0));
    }

    /** Both ways, and what comes to pass, for every draft, hour and length. */
    private static void homeFromEveryHour() {
        for (int draft = 0; draft <= 6; draft++) {
            for (int hour = 1; hour <= 12; hour++) {
                BoatRota rota = rota(2, draft);
                rota.pass(hour);
                for (int hours = 1; hours <= 9 && rota.wouldRefuse(0) == 0; hours++) {
                    rota.call(0, hours);
                    home(rota);
                    rota.undo();
                }
            }
        }
    }

    private static void home(BoatRota rota) {
        int passed = 0;
        int due = rota.homeIn(0);
        while (rota.boatOf(0, 2) == 1) {
            Check.same("homeIn", due - passed, rota.homeIn(0));
            Check.same("homeInAgain", due - passed, rota.homeInAgain(0));
            rota.pass(1);
            passed++;
        }
        Check.same("it came home", due, passed);
        while (passed-- > 0 && rota.account(11) > 1) {
            rota.undo();
        }
    }

    private static void promise23LoanOf() {
        BoatRota rota = rota(5, 0, 0);
        Class<?> none = IndexOutOfBoundsException.class;
        Check.fails("loanOf(0, 0)", rota, none, () -> rota.loanOf(0, 0));
        rota.borrow(3, 2);
        rota.call(0, 9);
        rota.call(1, 9);
        Check.same("oars", 3, rota.loanOf(0, 0));
        Check.same("hours until it is due", 2, rota.loanOf(0, 1));
        Check.same("late", 0, rota.loanOf(0, 2));
        rota.pass(4);
        Check.same("it is due", 0, rota.loanOf(0, 1));
        Check.same("in the second, third and fourth hour", 3, rota.loanOf(0, 2));
        Check.fails("loanOf(-1, 0)", rota, none, () -> rota.loanOf(-1, 0));
        Check.fails("loanOf(1, 3)", rota, none, () -> rota.loanOf(1, 3));
        Class<?> wrong = IllegalArgumentException.class;
        Check.fails("loanOf(0, -1)", rota, wrong, () -> rota.loanOf(0, -1));
        Check.fails("loanOf(0, 3)", rota, wrong, () -> rota.loanOf(0, 3));
    }

    private static void promise24Free() {
        BoatRota rota = rota(4, 0);
        Check.same("its own", 6, rota.free());
        rota.borrow(9, 1);
        Check.same("with lent ones", 15, rota.free());
        rota.call(0, 2);
        Check.same("without those that are out", 12, rota.free());
        rota.pass(1);
        Check.same("the loan is back", 3, rota.free());
        rota.pass(1);
        Check.same("the boat is in", 6, rota.free());
    }

    private static void promise34OutShare() {
        BoatRota rota = rota(4, 0, 0);
        Check.same("none", 0.0, (double) rota.outShare());
        rota.call(0, 2);
        Check.same("half", 0.5, (double) rota.outShare());
        rota.borrow(4, 9);
        Check.same("3 of 10, as floats", (double) (3f / 10f), (double) rota.outShare());
        rota.call(1, 2);
        Check.same("6 of 10", (double) (6f / 10f), (double) rota.outShare());
        rota.pass(2);
        Check.same("none again", 0.0, (double) rota.outShare());
    }
}
