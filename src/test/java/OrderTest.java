import java.util.NoSuchElementException;

/** Promises 25, 26, 33 and 35: the members in order, their mean, and the accounts.
 *  The hours of being late, account 9, are counted in HoursTest. */
public final class OrderTest {
    public static void main(String[] args) {
        promise25Least();
        promise26Busiest();
        fullStation();
        promise33MeanWeariness();
        promise35Account();
        Check.end("OrderTest");
    }

    private static String order(BoatRota rota, boolean isByHours) {
        StringBuilder out = new StringBuilder();
        try {
            for (int place = 0; place < 20; place++) {
                out.append(isByHours ? rota.busiest(place) : rota.least(place));
            }
        } catch (NoSuchElementException e) {
            return out.toString();
        }
        return "an order without an end";
    }

    private static void promise25Least() {
        BoatRota rota = new BoatRota();
        Class<?> none = NoSuchElementException.class;
        Check.fails("least(0) of nobody", rota, none, () -> rota.least(0));
        int[] skills = {0, 2, 1, 0, 2, 1};
        for (int skill : skills) {
            rota.member(skill);
        }
        Check.same("by skill, then by number", "142503", order(rota, false));
        rota.boat(0, 2);
        rota.call(0, 2);
        rota.pass(2);
        Check.same("the weary last", "425301", order(rota, false));
        rota.leave(2);
        rota.leave(0);
        Check.same("without the gone", "4531", order(rota, false));
        Check.fails("least(4)", rota, none, () -> rota.least(4));
        Check.fails("least(-1)", rota, none, () -> rota.least(-1));
        Check.fails("least(most)", rota, none, () -> rota.least(Integer.MAX_VALUE));
        rota.call(0, 1);
        Check.same("also those who are out", "4531", order(rota, false));
    }

    private static void promise26Busiest() {
        BoatRota rota = new BoatRota();
        Class<?> none = NoSuchElementException.class;
        Check.fails("busiest(0) of nobody", rota, none, () -> rota.busiest(0));
        int[] skills = {0, 0, 2, 0, 2};
        for (int skill : skills) {
            rota.member(skill);
        }
        Check.same("by number", "01234", order(rota, true));
        rota.boat(0, 2);
        rota.call(0, 2);
        Check.same("just called out", "02134", order(rota, true));
        rota.pass(2);
        Check.same("by hours", "02134", order(rota, true));
        rota.call(0, 3);
        rota.pass(3);
        Check.same("the most hours first", "14023", order(rota, true));
        moreOften();
        rota.leave(0);
        Check.same("the gone too", "14023", order(rota, true));
        Check.fails("busiest(5)", rota, none, () -> rota.busiest(5));
        Check.fails("busiest(-1)", rota, none, () -> rota.busiest(-1));
    }

    private static void moreOften() {
        BoatRota rota = new BoatRota();
        rota.member(2);
        rota.member(0);
        rota.boat(0, 2);
        rota.call(0, 2);
        rota.pass(2);
        rota.leave(0);
        rota.leave(1);
        rota.member(2);
        rota.member(0);
        rota.call(0, 1);
        rota.pass(1);
        Check.same("the gone have more hours", "0123", order(rota, true));
        rota.call(0, 1);
        Check.same("two calls, but an hour less", "0123", order(rota, true));
        rota.pass(1);
        Check.same("as many hours, and called out more often", "2301", order(rota, true));
        rota.call(0, 1);
        rota.pass(1);
        Check.same("more hours", "2301", order(rota, true));
    }

    private static void fullStation() {
        BoatRota rota = new BoatRota();
        int[] skills = {0, 1, 2, 0, 1, 2, 0, 1, 2, 0};
        for (int skill : skills) {
            rota.member(skill);
        }
        Check.same("ten by skill", "2581470369", order(rota, false));
        Check.same("ten by number", "0123456789", order(rota, true));
        rota.boat(0, 6);
        rota.call(0, 1);
        rota.pass(1);
        // 2 is the coxswain, 1 and 4 are the skilled ones, and 0, 3 and 5 the others.
        Check.same("six of ten weary", "8769514032", order(rota, false));
        Check.same("six of ten busy", "0123456789", order(rota, true));
    }

    private static void promise33MeanWeariness() {
        BoatRota rota = new BoatRota();
        Class<?> none = ArithmeticException.class;
        Check.fails("of nobody", rota, none, () -> (long) rota.meanWeariness());
        rota.member(2);
        rota.member(0);
        rota.member(0);
        rota.boat(0, 2);
        Check.same("of the fresh", 0.0, rota.meanWeariness());
        rota.call(0, 2);
        rota.pass(2);
        Check.same("4, 2 and 0", 2.0, rota.meanWeariness());
        rota.pass(1);
        Check.same("3, 1 and 0, as doubles", 4.0 / 3.0, rota.meanWeariness());
        rota.leave(2);
        Check.same("without the gone", 2.0, rota.meanWeariness());
        rota.leave(0);
        Check.same("of the last", 1.0, rota.meanWeariness());
        rota.leave(1);
        Check.fails("of the gone", rota, none, () -> (long) rota.meanWeariness());
    }

    private static void promise35Account() {
        BoatRota rota = new BoatRota();
        Class<?> wrong = IllegalArgumentException.class;
        Check.fails("account(-1)", rota, wrong, () -> rota.account(-1));
        Check.fails("account(13)", rota, wrong, () -> rota.account(13));
        int[] skills = {2, 0, 2, 0, 1};
        for (int skill : skills) {
            rota.member(skill);
        }
        accounts("five members", rota, 0, 5, 0, 0, 0, 0, 6, 0, 0, 0, 8, 5, 0);
        rota.leave(4);
        rota.boat(0, 2);
        rota.boat(0, 2);
        accounts("boats", rota, 0, 5, 1, 2, 0, 0, 6, 0, 0, 0, 8, 8, 0);
        rota.borrow(9, 1);
        rota.borrow(7, 1);
        rota.call(0, 1);
        rota.call(1, 9);
        accounts("called out", rota, 0, 5, 1, 2, 2, 2, 22, 2, 0, 0, 8, 8, 0);
        rota.limit(15);
        rota.append('m');
        rota.append('3');
        rota.pass(2);
        accounts("hours", rota, 2, 5, 1, 2, 1, 0, 6, 2, 1, 0, 15, 8, 2);
        rota.undo();
        accounts("undone", rota, 0, 5, 1, 2, 2, 2, 22, 2, 0, 0, 15, 7, 2);
    }

    private static void accounts(String what, BoatRota rota, int... due) {
        for (int k = 0; k <= 12; k++) {
            Check.same(what + ": account(" + k + ")", due[k], rota.account(k));
        }
    }
}
