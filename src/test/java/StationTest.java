/** Promises 1 to 5 and 9: the new object, members, boats and the limit, with their refusals. */
public final class StationTest {
    public static void main(String[] args) {
        promise1NewObject();
        promise2Member();
        promise3Leave();
        promise4Train();
        promise5Boat();
        promise9Limit();
        Check.end("StationTest");
    }

    private static void promise1NewObject() {
        BoatRota rota = new BoatRota();
        Check.same("a new object", "accounts 0 0 0 0 0 0 6 0 0 0 8 height 0 able 0 free 6 out 0.0"
                + " undo 0 text 0 fault -1 line  r- r- r- r-", View.of(rota));
        Check.fails("undo", rota, IllegalStateException.class, rota::undo);
        Check.fails("restore", rota, IllegalStateException.class, rota::restore);
        BoatRota other = new BoatRota();
        other.member(2);
        Check.same("another object's members", 0, rota.account(1));
    }

    private static void promise2Member() {
        BoatRota rota = new BoatRota();
        Check.refused("member(-1)", rota, 1, 0, () -> rota.member(-1));
        Check.refused("member(3)", rota, 1, 0, () -> rota.member(3));
        for (int k = 0; k < 10; k++) {
            Check.same("member", k, rota.member(k % 3));
            Check.same("its skill", k % 3, rota.memberOf(k, 0));
            for (int what = 1; what <= 7; what++) {
                int due = what == 3 ? -1 : what == 4 ? 1 : 0;
                Check.same("memberOf(.., " + what + ")", due, rota.memberOf(k, what));
            }
            Check.same("the members who came", k + 1, rota.account(1));
        }
        Check.refused("the eleventh", rota, 2, 10, () -> rota.member(0));
        Check.refused("out of range before too many", rota, 1, 0,
                () -> rota.member(Integer.MAX_VALUE));
        rota.leave(4);
        Check.refused("the gone count too", rota, 2, 10, () -> rota.member(0));
    }

    private static void promise3Leave() {
        BoatRota rota = withCrew(2, 0, 2);
        Check.refused("leave(-1)", rota, 3, -1, () -> rota.leave(-1));
        Check.refused("leave(2)", rota, 3, 2, () -> rota.leave(2));
        Check.refused("leave(least)", rota, 3, Integer.MIN_VALUE,
                () -> rota.leave(Integer.MIN_VALUE));
        rota.member(1);
        rota.boat(0, 2);
        Check.same("leave(2)", 2, rota.leave(2));
        Check.same("it is gone", 2, rota.memberOf(2, 1));
        Check.same("it is with no boat", -1, rota.memberOf(2, 3));
        Check.same("it is not able", 0, rota.memberOf(2, 4));
        Check.same("the gone", 1, rota.account(2));
        Check.same("those who came", 3, rota.account(1));
        Check.refused("leave(2) again", rota, 4, 0, () -> rota.leave(2));
        rota.call(1, 1);
        Check.refused("leave of one who is out", rota, 5, 1, () -> rota.leave(0));
        rota.pass(1);
        Check.same("leave(0) ashore", 1, rota.leave(0));
        rota.pass(9);
        Check.same("a gone one keeps its weariness", 2, rota.memberOf(0, 2));
        Check.same("and its hours", 1, rota.memberOf(0, 5));
        Check.same("and its call-outs", 1, rota.memberOf(0, 6));
        Check.same("also as the coxswain", 1, rota.memberOf(0, 7));
        Check.same("the last one", 0, rota.leave(1));
    }

    private static void promise4Train() {
        BoatRota rota = withCrew(2, 0, 2);
        Check.refused("train(-1)", rota, 3, -1, () -> rota.train(-1));
        Check.refused("train(2)", rota, 3, 2, () -> rota.train(2));
        Check.refused("train a coxswain", rota, 6, 0, () -> rota.train(0));
        Check.same("train a hand", 1, rota.train(1));
        Check.same("its skill", 1, rota.memberOf(1, 0));
        Check.same("train an oar", 2, rota.train(1));
        Check.refused("train it again", rota, 6, 0, () -> rota.train(1));
        rota.member(0);
        rota.leave(2);
        Check.refused("train one who is gone", rota, 4, 0, () -> rota.train(2));
        rota.call(0, 2);
        Check.refused("out before a coxswain already", rota, 5, 0, () -> rota.train(0));
        rota.pass(2);
        rota.leave(0);
        Check.refused("gone before a coxswain already", rota, 4, 0, () -> rota.train(0));
    }

    private static void promise5Boat() {
        BoatRota rota = new BoatRota();
        Check.refused("boat(-1, 2)", rota, 1, 0, () -> rota.boat(-1, 2));
        Check.refused("boat(7, 2)", rota, 1, 0, () -> rota.boat(7, 2));
        Check.refused("boat(0, 1)", rota, 1, 0, () -> rota.boat(0, 1));
        Check.refused("boat(0, 7)", rota, 1, 0, () -> rota.boat(0, 7));
        Check.same("boat(0, 2)", 0, rota.boat(0, 2));
        Check.same("boat(6, 6)", 1, rota.boat(6, 6));
        Check.same("boat(3, 5)", 2, rota.boat(3, 5));
        Check.same("the boats", 3, rota.account(3));
        int[] due = {6, 6, 0, 0, 0, -1, 0};
        for (int what = 0; what <= 6; what++) {
            Check.same("boatOf(1, " + what + ")", due[what], rota.boatOf(1, what));
        }
        Check.refused("the fourth", rota, 2, 3, () -> rota.boat(0, 2));
        Check.refused("the range before the number", rota, 1, 0, () -> rota.boat(0, 9));
    }

    private static void promise9Limit() {
        BoatRota rota = withCrew(2, 0, 2);
        Check.refused("limit(0)", rota, 1, 0, () -> rota.limit(0));
        Check.refused("limit(21)", rota, 1, 0, () -> rota.limit(21));
        Check.refused("limit(8) at first", rota, 6, 0, () -> rota.limit(8));
        Check.same("limit(20)", 8, rota.limit(20));
        Check.same("limit(1)", 20, rota.limit(1));
        Check.same("the limit", 1, rota.account(10));
        Check.refused("limit(1) again", rota, 6, 0, () -> rota.limit(1));
        Check.same("fresh ones are able", 3, rota.able());
        rota.call(0, 1);
        rota.pass(1);
        Check.same("one as weary as the limit is not", 0, rota.able());
        rota.limit(2);
        Check.same("one below it is", 2, rota.able());
    }

    /** A coxswain or the like, another member, and a boat that goes at any time. */
    private static BoatRota withCrew(int skill, int otherSkill, int seats) {
        BoatRota rota = new BoatRota();
        rota.member(skill);
        rota.member(otherSkill);
        rota.boat(0, seats);
        return rota;
    }
}
