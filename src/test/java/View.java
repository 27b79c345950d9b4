import java.util.NoSuchElementException;

/**
 * All that can be seen of a rota without changing it, as a text. It takes some 200 calls, so a
 * test that looks at it often goes on behind the 512 calls of the document; this class counts
 * no calls, and answers later ones as it does the first.
 */
final class View {
    private View() {
    }

    static String of(BoatRota rota) {
        StringBuilder out = new StringBuilder(withoutReason(rota));
        for (int k = 0; k < 4; k++) {
            out.append(" r").append(reason(rota, k >= 2, k % 2 == 1));
        }
        return out.toString();
    }

    static String withoutReason(BoatRota rota) {
        return changing(rota) + " undo " + rota.account(11) + " text " + rota.account(12)
                + " fault " + rota.faultPosition() + " line " + line(rota);
    }

    /** What can be undone, and nothing else. */
    static String changing(BoatRota rota) {
        StringBuilder out = new StringBuilder("accounts");
        for (int what = 0; what <= 10; what++) {
            out.append(' ').append(rota.account(what));
        }
        for (int member = 0; member < rota.account(1); member++) {
            out.append(" m").append(member);
            for (int what = 0; what <= 7; what++) {
                out.append(' ').append(rota.memberOf(member, what));
            }
        }
        for (int boat = 0; boat < rota.account(3); boat++) {
            out.append(" b").append(boat);
            for (int what = 0; what <= 6; what++) {
                out.append(' ').append(rota.boatOf(boat, what));
            }
            out.append(" crew ").append(rota.crew(boat));
        }
        for (int loan = 0; loan < rota.account(5); loan++) {
            out.append(" l").append(loan);
            for (int what = 0; what <= 2; what++) {
                out.append(' ').append(rota.loanOf(loan, what));
            }
        }
        out.append(" height ").append(rota.height(0));
        out.append(" able ").append(rota.able()).append(" free ").append(rota.free());
        return out.append(" out ").append(rota.outShare()).toString();
    }

    static String line(BoatRota rota) {
        StringBuilder out = new StringBuilder();
        try {
            for (int k = 0; k < 1000; k++) {
                out.append(rota.character(k));
            }
        } catch (IndexOutOfBoundsException e) {
            return out.toString();
        }
        return "a line without an end";
    }

    private static String reason(BoatRota rota, boolean isCause, boolean isDetail) {
        try {
            return Integer.toString(rota.reason(isCause, isDetail));
        } catch (NoSuchElementException e) {
            return "-";
        }
    }
}
