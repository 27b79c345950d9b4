import java.util.NoSuchElementException;

/** Promises 6 and 12 to 20: who is called out, in which order, and why not. */
public final class CallTest {
    public static void main(String[] args) {
        promise6Call();
        promise6RefusalsInOrder();
        choosing();
        promise12MemberOf();
        promise13BoatOf();
        promise14Crew();
        promise15Able();
        promises16To18WouldGo();
        promise18AllCrews();
        promise19WouldRefuse();
        promise20CallableIn();
        promise20TheLastHour();
        Check.end("CallTest");
    }

    private static BoatRota rota(int... skills) {
        BoatRota rota = new BoatRota();
        for (int skill : skills) {
            rota.member(skill);
        }
        return rota;
    }

    private static void promise6Call() {
        BoatRota rota = rota(0, 2, 1, 0);
        rota.boat(0, 3);
        Check.same("call", 1, rota.call(0, 9));
        Check.same("its crew", 0b0111, rota.crew(0));
        Check.same("free oars", 4, rota.free());
        Check.same("call-outs", 1, rota.account(7));
        Check.same("boats out", 1, rota.account(4));
        Check.same("hours left", 9, rota.boatOf(0, 3));
        Check.same("it came in", 1, rota.pass(9));
        Check.same("free oars then", 6, rota.free());
        Check.same("nobody is out then", 0, rota.crew(0));
    }

    /** Every reason of a call-out, each while all behind it apply too where that can be. */
    private static void promise6RefusalsInOrder() {
        BoatRota rota = rota();
        rota.boat(4, 5);
        Check.refused("no such boat", rota, 3, 1, () -> rota.call(1, 0));
        Check.refused("a boat below 0", rota, 3, -1, () -> rota.call(-1, 0));
        Check.refused("no hours", rota, 1, 0, () -> rota.call(0, 0));
        Check.refused("too many hours", rota, 1, 0, () -> rota.call(0, 10));
        Check.refused("low water", rota, 7, 4, () -> rota.call(0, 1));
        rota.pass(3);
        Check.refused("water that is too low by 1", rota, 7, 1, () -> rota.call(0, 1));
        rota.pass(1);
        Check.refused("no coxswain", rota, 8, 0, () -> rota.call(0, 1));
        rota.member(2);
        Check.refused("too few: 4", rota, 9, 4, () -> rota.call(0, 1));
        rota.member(0);
        rota.member(0);
        rota.member(0);
        Check.refused("too few: 1", rota, 9, 1, () -> rota.call(0, 1));
        rota.member(0);
        Check.refused("too few skilled: 2", rota, 10, 2, () -> rota.call(0, 1));
        rota.train(3);
        Check.refused("too few skilled: 1", rota, 10, 1, () -> rota.call(0, 1));
        rota.member(2);
        Check.same("another coxswain is one of the others", 0, rota.wouldRefuse(0));
        tooFewOars();
        rota.call(0, 9);
        Check.refused("hours before out", rota, 1, 0, () -> rota.call(0, 10));
        Check.refused("out", rota, 5, 0, () -> rota.call(0, 1));
        rota.pass(8);
        Check.same("low water", 0, rota.height(0));
        Check.refused("out before low water", rota, 5, 0, () -> rota.call(0, 1));
    }

    private static void tooFewOars() {
        BoatRota rota = rota(2, 1, 1, 0, 0, 1, 1, 0, 2, 0);
        rota.boat(0, 5);
        rota.boat(0, 5);
        rota.call(0, 1);
        Check.refused("too few oars: 2", rota, 11, 2, () -> rota.call(1, 1));
        Check.same("the same would be", 11, rota.wouldRefuse(1));
        rota.borrow(1, 9);
        Check.refused("too few oars: 1", rota, 11, 1, () -> rota.call(1, 1));
        rota.borrow(1, 9);
        Check.same("just enough oars", 8, rota.call(1, 1));
        Check.same("none is free", 0, rota.free());
    }

    private static void choosing() {
        BoatRota rota = rota(0, 0, 0, 1, 1, 2, 2, 2);
        rota.boat(0, 6);
        rota.boat(0, 2);
        Check.same("the lowest of several", 0b00111111, rota.wouldGo(0));
        Check.same("a boat of two needs no other skill", 0b00100001, rota.wouldGo(1));
        rota.call(1, 1);
        rota.pass(1);
        Check.same("the least weary coxswain, and the least weary of the rest", 0b11011110,
                rota.wouldGo(0));
        Check.same("the crew of two", 0b01000010, rota.wouldGo(1));
        Check.same("call answers the coxswain", 6, rota.call(1, 2));
        Check.same("the coxswain", 6, rota.boatOf(1, 5));
        rota.pass(2);
        Check.same("the first coxswain is as fresh as the third", 5, rota.call(0, 1));
        Check.same("its crew", 0b10111101, rota.crew(0));
        coxswainBeforeOars();
    }

    /** A coxswain may be one of the others too, and the less weary oar is taken before it. */
    private static void coxswainBeforeOars() {
        BoatRota rota = rota(2, 1, 2, 0, 0);
        rota.boat(0, 3);
        Check.same("the lowest of equals", 0b00111, rota.wouldGo(0));
        rota.call(0, 1);
        rota.pass(1);
        Check.same("the other coxswain, the oar who is less weary, and a fresh hand", 0b01110,
                rota.wouldGo(0));
        Check.same("their weariness", 2, rota.weariness(0));
        Check.same("two hands would be fresher, but would not do", 2, rota.wearinessAgain(0));
        rota.pass(1);
        Check.same("its weariness", 0, rota.weariness(0));
        Check.same("the fresh oar, and the fresh hand", 0b01110, rota.wouldGo(0));
    }

    private static void promise12MemberOf() {
        BoatRota rota = rota(2, 0, 1);
        rota.boat(0, 2);
        rota.boat(0, 2);
        rota.call(1, 3);
        rota.pass(2);
        int[] coxswain = {2, 1, 4, 1, 0, 2, 1, 1};
        int[] hand = {0, 1, 2, 1, 0, 2, 1, 0};
        int[] ashore = {1, 0, 0, -1, 1, 0, 0, 0};
        for (int what = 0; what <= 7; what++) {
            Check.same("memberOf(0, " + what + ")", coxswain[what], rota.memberOf(0, what));
            Check.same("memberOf(1, " + what + ")", hand[what], rota.memberOf(1, what));
            Check.same("memberOf(2, " + what + ")", ashore[what], rota.memberOf(2, what));
        }
        Class<?> none = IndexOutOfBoundsException.class;
        Check.fails("memberOf(-1, 0)", rota, none, () -> rota.memberOf(-1, 0));
        Check.fails("memberOf(3, 0)", rota, none, () -> rota.memberOf(3, 0));
        Check.fails("memberOf(3, 8)", rota, none, () -> rota.memberOf(3, 8));
        Class<?> wrong = IllegalArgumentException.class;
        Check.fails("memberOf(0, -1)", rota, wrong, () -> rota.memberOf(0, -1));
        Check.fails("memberOf(0, 8)", rota, wrong, () -> rota.memberOf(0, 8));
    }

    private static void promise13BoatOf() {
        BoatRota rota = rota(0, 2);
        rota.boat(1, 2);
        rota.boat(2, 3);
        rota.pass(9);
        rota.call(0, 3);
        rota.pass(3);
        int[] due = {1, 2, 1, 0, 1, 1, 1};
        int[] other = {2, 3, 0, 0, 0, -1, 0};
        for (int what = 0; what <= 6; what++) {
            Check.same("boatOf(0, " + what + ")", due[what], rota.boatOf(0, what));
            Check.same("boatOf(1, " + what + ")", other[what], rota.boatOf(1, what));
        }
        rota.pass(1);
        Check.same("in, it has waited", 1, rota.boatOf(0, 4));
        Check.same("in, it has no coxswain", -1, rota.boatOf(0, 5));
        Class<?> none = IndexOutOfBoundsException.class;
        Check.fails("boatOf(-1, 0)", rota, none, () -> rota.boatOf(-1, 0));
        Check.fails("boatOf(2, 0)", rota, none, () -> rota.boatOf(2, 0));
        Check.fails("boatOf(2, 7)", rota, none, () -> rota.boatOf(2, 7));
        Class<?> wrong = IllegalArgumentException.class;
        Check.fails("boatOf(0, -1)", rota, wrong, () -> rota.boatOf(0, -1));
        Check.fails("boatOf(0, 7)", rota, wrong, () -> rota.boatOf(0, 7));
    }

    private static void promise14Crew() {
        BoatRota rota = rota(2, 0, 2, 0);
        rota.boat(0, 2);
        rota.boat(0, 2);
        Check.same("nobody is out", 0, rota.crew(0));
        rota.call(1, 1);
        rota.call(0, 2);
        Check.same("the first crew", 0b0011, rota.crew(1));
        Check.same("the second crew", 0b1100, rota.crew(0));
        rota.pass(1);
        Check.same("a crew ashore", 0, rota.crew(1));
        Check.same("a crew out", 0b1100, rota.crew(0));
        Class<?> none = IndexOutOfBoundsException.class;
        Check.fails("crew(-1)", rota, none, () -> rota.crew(-1));
        Check.fails("crew(2)", rota, none, () -> rota.crew(2));
    }

    private static void promise15Able() {
        BoatRota rota = rota(2, 0, 0, 0);
        Check.same("nobody", 0, new BoatRota().able());
        rota.boat(0, 2);
        rota.leave(3);
        Check.same("those ashore", 0b0111, rota.able());
        rota.call(0, 4);
        Check.same("not those who are out", 0b0100, rota.able());
        rota.pass(4);
        Check.same("not the weary", 0b0110, rota.able());
        rota.pass(1);
        Check.same("again below the limit", 0b0111, rota.able());
    }

    private static void promises16To18WouldGo() {
        BoatRota rota = rota();
        Class<?> none = IndexOutOfBoundsException.class;
        Check.fails("wouldGo(0)", rota, none, () -> rota.wouldGo(0));
        Check.fails("weariness(0)", rota, none, () -> rota.weariness(0));
        Check.fails("wearinessAgain(0)", rota, none, () -> rota.wearinessAgain(0));
        rota.boat(6, 3);
        Check.fails("wouldGo(-1)", rota, none, () -> rota.wouldGo(-1));
        Check.fails("weariness(-1)", rota, none, () -> rota.weariness(-1));
        Check.fails("wearinessAgain(-1)", rota, none, () -> rota.wearinessAgain(-1));
        noCrew("no coxswain", rota);
        rota.member(2);
        noCrew("too few", rota);
        rota.member(0);
        rota.member(0);
        noCrew("too few skilled", rota);
        rota.train(2);
        Check.same("at low water", 0b111, rota.wouldGo(0));
        rota.pass(6);
        rota.call(0, 1);
        noCrew("all are out", rota);
        rota.pass(12);
        Check.same("weary at home: 24, 12 and 12", 0, rota.able());
        rota.limit(20);
        noCrew("no able coxswain", rota);
        rota.pass(5);
        Check.same("again at 19", 0b111, rota.wouldGo(0));
        Check.same("weariness", 19 + 7 + 7, rota.weariness(0));
        Check.same("wearinessAgain", 19 + 7 + 7, rota.wearinessAgain(0));
        Check.same("reason is not kept", NoSuchElementException.class.getName(),
                Check.thrown(() -> rota.reason(false, false)));
        withoutOars();
    }

    private static void noCrew(String what, BoatRota rota) {
        Class<?> none = NoSuchElementException.class;
        Check.fails("wouldGo: " + what, rota, none, () -> rota.wouldGo(0));
        Check.fails("weariness: " + what, rota, none, () -> rota.weariness(0));
        Check.fails("wearinessAgain: " + what, rota, none, () -> rota.wearinessAgain(0));
    }

    private static void withoutOars() {
        BoatRota rota = rota(2, 1, 1, 0, 0, 1, 0, 0, 2, 0);
        rota.boat(0, 5);
        rota.boat(0, 4);
        rota.call(0, 9);
        Check.same("too few oars", 11, rota.wouldRefuse(1));
        Check.same("whatever the oars", 0b0111100000, rota.wouldGo(1));
        BoatRota two = rota(2, 0, 2, 0);
        two.boat(0, 2);
        two.call(0, 1);
        Check.same("it is out", 5, two.wouldRefuse(0));
        Check.same("whether it is out or not", 0b1100, two.wouldGo(0));
        Check.same("its weariness", 0, two.weariness(0));
        Check.same("its weariness again", 0, two.wearinessAgain(0));
    }

    /** The second way is held against all crews, for many states. */
    private static void promise18AllCrews() {
        for (int seed = 0; seed < 60; seed++) {
            java.util.Random dice = new java.util.Random(seed * 7919L);
            BoatRota rota = rota(2, 1, 0);
            for (int k = 3; k < 10; k++) {
                rota.member(dice.nextInt(3));
            }
            rota.boat(0, 2 + dice.nextInt(3));
            rota.boat(0, 2);
            rota.boat(6, 2 + dice.nextInt(5));
            rota.limit(20);
            for (int k = 0; k < 8; k++) {
                int boat = dice.nextInt(2);
                if (rota.wouldRefuse(boat) == 0) {
                    rota.call(boat, 1 + dice.nextInt(5));
                }
                rota.pass(1 + dice.nextInt(3));
            }
            rota.pass(4);
            String thrown = Check.thrown(() -> rota.weariness(2));
            Check.same("both ways throw", thrown, Check.thrown(() -> rota.wearinessAgain(2)));
            if (thrown.equals("nothing")) {
                Check.same("both ways", rota.weariness(2), rota.wearinessAgain(2));
                int sum = 0;
                for (int k = 0; k < 10; k++) {
                    sum += (rota.wouldGo(2) >> k & 1) * rota.memberOf(k, 2);
                }
                Check.same("the crew's sum", sum, rota.weariness(2));
            }
        }
    }

    private static void promise19WouldRefuse() {
        BoatRota rota = rota();
        Class<?> none = IndexOutOfBoundsException.class;
        Check.fails("wouldRefuse(0)", rota, none, () -> rota.wouldRefuse(0));
        rota.boat(3, 5);
        Check.fails("wouldRefuse(-1)", rota, none, () -> rota.wouldRefuse(-1));
        String before = View.of(rota);
        Check.same("the tide", 7, rota.wouldRefuse(0));
        Check.same("it keeps nothing", before, View.of(rota));
        rota.pass(3);
        Check.same("a coxswain", 8, rota.wouldRefuse(0));
        rota.member(2);
        Check.same("members", 9, rota.wouldRefuse(0));
        for (int k = 0; k < 4; k++) {
            rota.member(0);
        }
        Check.same("skill", 10, rota.wouldRefuse(0));
        rota.train(1);
        rota.train(2);
        Check.same("nothing", 0, rota.wouldRefuse(0));
        rota.call(0, 1);
        Check.same("it is out", 5, rota.wouldRefuse(0));
    }

    private static void promise20CallableIn() {
        BoatRota rota = rota(2, 0);
        Class<?> none = IndexOutOfBoundsException.class;
        Check.fails("callableIn(0)", rota, none, () -> rota.callableIn(0));
        rota.boat(4, 2);
        rota.boat(0, 5);
        Check.fails("callableIn(-1)", rota, none, () -> rota.callableIn(-1));
        String before = View.of(rota);
        Check.same("for the tide", 4, rota.callableIn(0));
        Check.same("it changes nothing", before, View.of(rota));
        Class<?> never = NoSuchElementException.class;
        Check.fails("never: too few members", rota, never, () -> rota.callableIn(1));
        rota.pass(4);
        Check.same("now", 0, rota.callableIn(0));
        rota.call(0, 4);
        // In at the hour 8, as weary as 8 and 4; below the limit at the hour 9, but low water.
        Check.same("home, rested, and the next tide", 12, rota.callableIn(0));
        rota.pass(12);
        Check.same("it is so", 0, rota.wouldRefuse(0));
        rota.call(0, 9);
        rota.limit(1);
        Check.same("home at 28, rested from 24 at 52", 36, rota.callableIn(0));
        waitingForOars();
    }

    private static void waitingForOars() {
        BoatRota rota = rota(2, 1, 0, 0, 2, 1, 1, 1, 0, 0);
        rota.boat(0, 4);
        rota.boat(0, 4);
        rota.borrow(4, 2);
        rota.boat(0, 5);
        rota.call(0, 3);
        Check.same("with lent oars", 0, rota.callableIn(1));
        rota.pass(2);
        Check.same("the loan went back", 3, rota.free());
        Check.same("when the other is home", 1, rota.callableIn(2));
    }

    private static void promise20TheLastHour() {
        BoatRota rota = rota(2, 0);
        rota.boat(6, 2);
        rota.boat(0, 2);
        rota.limit(20);
        rota.pass(6);
        rota.call(0, 1);
        rota.pass(22);
        rota.call(1, 1);
        rota.pass(2);
        Check.same("as weary as that in the hour 30", 15, rota.memberOf(0, 2));
        rota.call(0, 1);
        rota.limit(1);
        rota.pass(11);
        // At home at 42, as weary as 39, it is rested at 81; high water is at 90.
        Class<?> never = NoSuchElementException.class;
        Check.fails("in the 49th hour", rota, never, () -> rota.callableIn(0));
        rota.pass(1);
        Check.same("as weary as that at home", 39, rota.memberOf(0, 2));
        Check.same("in the 48th hour", 48, rota.callableIn(0));
        rota.pass(48);
        Check.same("it is so", 0, rota.wouldRefuse(0));
    }
}
