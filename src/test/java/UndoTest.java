/** Promises 36 to 38: undo, save and restore. */
public final class UndoTest {
    public static void main(String[] args) {
        promise36EveryChange();
        promise36LateAndWaiting();
        promise36OnlyChanges();
        promise36TheLatestEight();
        promise37Save();
        promise38Restore();
        whatStays();
        Check.end("UndoTest");
    }

    private static BoatRota rota() {
        BoatRota rota = new BoatRota();
        int[] skills = {2, 1, 0, 0, 2, 1, 1, 0};
        for (int skill : skills) {
            rota.member(skill);
        }
        rota.boat(0, 4);
        rota.boat(2, 3);
        return rota;
    }

    private static void promise36EveryChange() {
        BoatRota rota = rota();
        String[] before = new String[9];
        before[0] = View.changing(rota);
        rota.member(1);
        before[1] = View.changing(rota);
        rota.leave(7);
        before[2] = View.changing(rota);
        rota.train(2);
        before[3] = View.changing(rota);
        rota.boat(5, 5);
        before[4] = View.changing(rota);
        rota.borrow(3, 5);
        before[5] = View.changing(rota);
        rota.call(0, 2);
        before[6] = View.changing(rota);
        rota.pass(4);
        before[7] = View.changing(rota);
        rota.limit(2);
        for (int k = 7; k >= 0; k--) {
            Check.same("undo", k, rota.undo());
            Check.same("as it was before the change " + k, before[k], View.changing(rota));
            Check.same("what can be undone", k, rota.account(11));
        }
        Check.fails("undo", rota, IllegalStateException.class, rota::undo);
        rota.borrow(2, 2);
        String lent = View.changing(rota);
        rota.giveBack(0);
        rota.undo();
        Check.same("a loan that was given back", lent, View.changing(rota));
        Check.write(rota, "c01;t9;m2;l20");
        rota.commands();
        rota.undo();
        Check.same("a text", lent, View.changing(rota));
    }

    /** What only counts up: the hours of a late loan, and those of a boat outside. */
    private static void promise36LateAndWaiting() {
        BoatRota rota = rota();
        rota.member(0);
        rota.boat(5, 5);
        rota.pass(5);
        rota.borrow(1, 1);
        rota.call(0, 9);
        rota.call(2, 4);
        rota.pass(4);
        Check.same("it waits", 1, rota.boatOf(2, 4));
        Check.same("the loan is late", 4, rota.loanOf(0, 2));
        String before = View.changing(rota);
        rota.save();
        rota.pass(3);
        Check.same("late for 3 hours more", 7, rota.account(9));
        rota.undo();
        Check.same("undone", before, View.changing(rota));
        rota.pass(2);
        rota.restore();
        Check.same("restored", before, View.changing(rota));
    }

    private static void promise36OnlyChanges() {
        BoatRota rota = new BoatRota();
        rota.member(2);
        rota.member(0);
        rota.boat(0, 2);
        rota.call(0, 1);
        String before = View.changing(rota);
        rota.height(1);
        rota.callableIn(0);
        rota.homeIn(0);
        rota.homeInAgain(0);
        rota.line(0);
        rota.append('t');
        Check.thrown(rota::commands);
        Check.thrown(() -> rota.member(5));
        Check.thrown(() -> rota.call(0, 1));
        rota.save();
        Check.same("none of these counts", 4, rota.account(11));
        Check.same("nor changes anything", before, View.changing(rota));
        Check.same("so the latest is the call-out", 3, rota.undo());
        Check.same("it is ashore", 0, rota.boatOf(0, 2));
        Check.same("it was not called out", 0, rota.memberOf(0, 6));
    }

    private static void promise36TheLatestEight() {
        BoatRota rota = new BoatRota();
        for (int k = 1; k <= 30; k++) {
            rota.pass(k);
            Check.same("what can be undone", Math.min(k, 8), rota.account(11));
        }
        int hour = rota.account(0);
        for (int k = 30; k > 22; k--) {
            Check.same("undo", k - 23, rota.undo());
            hour -= k;
            Check.same("the hour", hour, rota.account(0));
        }
        Check.fails("the ninth", rota, IllegalStateException.class, rota::undo);
        rota.pass(1);
        rota.undo();
        rota.pass(2);
        rota.pass(3);
        Check.same("one is left", 1, rota.undo());
        rota.pass(7);
        Check.same("another in its place", hour + 9, rota.account(0));
        Check.same("undo", 1, rota.undo());
        Check.same("undo", 0, rota.undo());
        Check.same("the hour", hour, rota.account(0));
    }

    private static void promise37Save() {
        BoatRota rota = rota();
        rota.pass(7);
        Check.same("save", 7, rota.save());
        Check.same("what can be undone stays", 8, rota.account(11));
        rota.pass(5);
        Check.same("in place of the earlier one", 12, rota.save());
        rota.pass(1);
        Check.same("restore", 12, rota.restore());
    }

    private static void promise38Restore() {
        BoatRota rota = rota();
        Check.fails("nothing is saved", rota, IllegalStateException.class, rota::restore);
        rota.borrow(4, 9);
        rota.call(0, 3);
        rota.pass(1);
        String saved = View.changing(rota);
        rota.save();
        rota.pass(20);
        rota.leave(0);
        rota.train(1);
        rota.giveBack(rota.borrow(1, 1));
        rota.member(0);
        rota.boat(6, 6);
        rota.limit(3);
        for (int k = 0; k < 2; k++) {
            Check.same("restore", 1, rota.restore());
            Check.same("what was saved", saved, View.changing(rota));
            Check.same("all is forgotten", 0, rota.account(11));
            Check.fails("undo", rota, IllegalStateException.class, rota::undo);
            rota.pass(3);
            rota.train(3);
        }
        Check.same("undo", 1, rota.undo());
        Check.same("undo", 0, rota.undo());
        Check.same("back to what was restored", saved, View.changing(rota));
        rota.pass(2);
        Check.same("undo does not touch the snapshot", 0, rota.undo());
        Check.same("restore", 1, rota.restore());
        Check.same("what was saved", saved, View.changing(rota));
    }

    private static void whatStays() {
        BoatRota rota = rota();
        rota.save();
        rota.pass(3);
        Check.thrown(() -> rota.leave(9));
        Check.write(rota, "q");
        Check.thrown(rota::commands);
        Check.write(rota, "t1");
        rota.line(1);
        rota.undo();
        stays(rota, "undo");
        rota.pass(1);
        rota.restore();
        stays(rota, "restore");
        Check.same("the buffer is still there", 1, rota.commands());
        Check.same("the hour", 1, rota.account(0));
    }

    private static void stays(BoatRota rota, String what) {
        Check.same(what + " leaves the text", 2, rota.account(12));
        Check.same(what + " leaves the fault position", 0, rota.faultPosition());
        Check.same(what + " leaves the reason", 3, rota.reason(false, false));
        Check.same(what + " leaves its detail", 9, rota.reason(false, true));
        Check.same(what + " leaves the line", "1d2s3", View.line(rota));
    }
}
