import java.util.ArrayDeque;
import java.util.ArrayList;
import java.util.Comparator;
import java.util.Deque;
import java.util.List;
import java.util.NoSuchElementException;
import java.util.regex.Matcher;
import java.util.regex.Pattern;
import java.util.stream.Collectors;
import java.util.stream.IntStream;

/**
 * The document once more, written in another way, with lists, streams and patterns and without
 * regard to what it makes. ModelTest holds BoatRota's answers against these.
 */
final class Model {
    private static final Pattern TEXT = Pattern.compile(
            "(?:[mxug][0-9]|[bc][0-9][0-9]|o[0-9][0-9]{1,2}|[lt][0-9]{1,2})"
            + "(?:;(?:[mxug][0-9]|[bc][0-9][0-9]|o[0-9][0-9]{1,2}|[lt][0-9]{1,2}))*");

    private static final class Man {
        final int number;
        int skill, tired, out, calls, cox;
        boolean gone;
        Craft craft;

        Man(int number, int skill) {
            this.number = number;
            this.skill = skill;
        }
    }

    private static final class Craft {
        final int number, draft, seats;
        int left, waited, calls;
        Man cox;

        Craft(int number, int draft, int seats) {
            this.number = number;
            this.draft = draft;
            this.seats = seats;
        }
    }

    private static final class Lent {
        final int oars;
        int due, late;

        Lent(int oars, int due) {
            this.oars = oars;
            this.due = due;
        }
    }

    private static final class World {
        List<Man> men = new ArrayList<>();
        List<Craft> crafts = new ArrayList<>();
        List<Lent> lent = new ArrayList<>();
        int hour, limit = 8, calls, home, late;

        World copy() {
            World to = new World();
            for (Craft c : crafts) {
                Craft d = new Craft(c.number, c.draft, c.seats);
                d.left = c.left;
                d.waited = c.waited;
                d.calls = c.calls;
                to.crafts.add(d);
            }
            for (Man m : men) {
                Man n = new Man(m.number, m.skill);
                n.tired = m.tired;
                n.out = m.out;
                n.calls = m.calls;
                n.cox = m.cox;
                n.gone = m.gone;
                n.craft = m.craft == null ? null : to.crafts.get(m.craft.number);
                to.men.add(n);
            }
            for (Craft c : crafts) {
                to.crafts.get(c.number).cox = c.cox == null ? null : to.men.get(c.cox.number);
            }
            for (Lent l : lent) {
                Lent k = new Lent(l.oars, l.due);
                k.late = l.late;
                to.lent.add(k);
            }
            to.hour = hour;
            to.limit = limit;
            to.calls = calls;
            to.home = home;
            to.late = late;
            return to;
        }

        int water(int h) {
            return 6 - Math.abs(6 - Math.floorMod(h, 12));
        }

        List<Man> fit() {
            return men.stream().filter(m -> !m.gone && m.craft == null && m.tired < limit)
                    .collect(Collectors.toList());
        }

        int all() {
            return 6 + lent.stream().mapToInt(l -> l.oars).sum();
        }

        int used() {
            return crafts.stream().filter(c -> c.cox != null).mapToInt(c -> c.seats - 1).sum();
        }

        /** A crew with its coxswain in front, or a reason and its detail in no. */
        List<Man> crew(Craft c, int[] no) {
            Comparator<Man> byTired = Comparator.<Man>comparingInt(m -> m.tired)
                    .thenComparingInt(m -> m.number);
            List<Man> rest = fit();
            rest.sort(byTired);
            int there = rest.size();
            List<Man> chosen = new ArrayList<>();
            rest.stream().filter(m -> m.skill == 2).findFirst().ifPresent(chosen::add);
            rest.removeAll(chosen);
            long oars = rest.stream().filter(m -> m.skill > 0).count();
            int half = (c.seats - 1) / 2;
            no[0] = chosen.isEmpty() ? 8 : there < c.seats ? 9 : oars < half ? 10 : 0;
            no[1] = no[0] == 9 ? c.seats - there : no[0] == 10 ? half - (int) oars : 0;
            if (no[0] != 0) {
                return List.of();
            }
            chosen.addAll(rest.stream().filter(m -> m.skill > 0).limit(half)
                    .collect(Collectors.toList()));
            rest.removeAll(chosen);
            chosen.addAll(rest.subList(0, c.seats - chosen.size()));
            return chosen;
        }

        int[] noCall(Craft c) {
            int[] no = new int[2];
            if (c.cox != null) {
                return new int[] {5, c.number};
            }
            if (water(hour) < c.draft) {
                return new int[] {7, c.draft - water(hour)};
            }
            crew(c, no);
            int missing = c.seats - 1 - (all() - used());
            return no[0] == 0 && missing > 0 ? new int[] {11, missing} : no;
        }

        void tick() {
            hour++;
            for (Man m : men) {
                if (m.craft != null) {
                    m.out++;
                    m.tired += m.craft.cox == m ? 2 : 1;
                } else if (!m.gone) {
                    m.tired = Math.max(0, m.tired - 1);
                }
            }
            for (Craft c : crafts) {
                if (c.cox != null) {
                    c.left = Math.max(0, c.left - 1);
                    if (c.left == 0 && water(hour) >= c.draft) {
                        men.stream().filter(m -> m.craft == c).forEach(m -> m.craft = null);
                        c.cox = null;
                        home++;
                    } else if (c.left == 0) {
                        c.waited++;
                    }
                }
            }
            for (Lent l : new ArrayList<>(lent)) {
                l.due = Math.max(0, l.due - 1);
                if (l.due == 0 && all() - used() >= l.oars) {
                    lent.remove(l);
                } else if (l.due == 0) {
                    l.late++;
                    late++;
                }
            }
        }
    }

    private World now = new World();
    private World saved;
    private final Deque<World> past = new ArrayDeque<>();
    private String text = "";
    private String line = "";
    private int fault = -1;
    private int[] reason = new int[2];
    private int[] cause = new int[2];

    private static int[] no(int number, int detail) {
        return new int[] {number, detail};
    }

    private static boolean in(int number, int from, int to) {
        return from <= number && number <= to;
    }

    /** Does what the letter means, or returns the reason for which it does not in no. */
    private int act(char letter, int a, int b, int[] no) {
        int[] why = why(letter, a, b);
        no[0] = why[0];
        no[1] = why[1];
        if (why[0] != 0) {
            return 0;
        }
        World w = now;
        switch (letter) {
            case 'm':
                w.men.add(new Man(w.men.size(), a));
                return w.men.size() - 1;
            case 'x':
                w.men.get(a).gone = true;
                return (int) w.men.stream().filter(m -> !m.gone).count();
            case 'u':
                return ++w.men.get(a).skill;
            case 'b':
                w.crafts.add(new Craft(w.crafts.size(), a, b));
                return w.crafts.size() - 1;
            case 'c':
                Craft c = w.crafts.get(a);
                List<Man> crew = w.crew(c, new int[2]);
                for (Man m : crew) {
                    m.craft = c;
                    m.calls++;
                }
                c.cox = crew.get(0);
                c.cox.cox++;
                c.left = b;
                c.calls++;
                w.calls++;
                return c.cox.number;
            case 'o':
                w.lent.add(new Lent(a, b));
                return w.lent.size() - 1;
            case 'g':
                w.lent.remove(a);
                return w.all() - w.used();
            case 'l':
                int limit = w.limit;
                w.limit = a;
                return limit;
            default:
                int home = w.home;
                IntStream.range(0, a).forEach(k -> w.tick());
                return w.home - home;
        }
    }

    private int[] why(char letter, int a, int b) {
        World w = now;
        boolean man = in(a, 0, w.men.size() - 1);
        switch (letter) {
            case 'm':
                return !in(a, 0, 2) ? no(1, 0) : w.men.size() == 10 ? no(2, 10) : no(0, 0);
            case 'x':
            case 'u':
                if (!man) {
                    return no(3, a);
                }
                Man m = w.men.get(a);
                return m.gone ? no(4, 0) : m.craft != null ? no(5, m.craft.number)
                        : letter == 'u' && m.skill == 2 ? no(6, 0) : no(0, 0);
            case 'b':
                return !in(a, 0, 6) || !in(b, 2, 6) ? no(1, 0)
                        : w.crafts.size() == 3 ? no(2, 3) : no(0, 0);
            case 'c':
                return !in(a, 0, w.crafts.size() - 1) ? no(3, a)
                        : !in(b, 1, 9) ? no(1, 0) : w.noCall(w.crafts.get(a));
            case 'o':
                return !in(a, 1, 9) || !in(b, 1, 48) ? no(1, 0)
                        : w.lent.size() == 4 ? no(2, 4) : no(0, 0);
            case 'g':
                if (!in(a, 0, w.lent.size() - 1)) {
                    return no(3, a);
                }
                int missing = w.lent.get(a).oars - (w.all() - w.used());
                return missing > 0 ? no(11, missing) : no(0, 0);
            case 'l':
                return !in(a, 1, 20) ? no(1, 0) : a == w.limit ? no(6, 0) : no(0, 0);
            default:
                return in(a, 1, 99) ? no(0, 0) : no(1, 0);
        }
    }

    private int change(char letter, int a, int b) {
        World before = now.copy();
        int[] no = new int[2];
        int answer = act(letter, a, b, no);
        if (no[0] != 0) {
            reason = no;
            cause = no(0, 0);
            throw new UnsupportedOperationException();
        }
        remember(before);
        return answer;
    }

    private void remember(World before) {
        past.addLast(before);
        if (past.size() > 8) {
            past.removeFirst();
        }
    }

    private Craft craft(int boat) {
        if (!in(boat, 0, now.crafts.size() - 1)) {
            throw new IndexOutOfBoundsException();
        }
        return now.crafts.get(boat);
    }

    private static int bits(List<Man> men) {
        return men.stream().mapToInt(m -> 1 << m.number).sum();
    }

    private List<Man> crewOf(int boat) {
        int[] no = new int[2];
        List<Man> crew = now.crew(craft(boat), no);
        if (no[0] != 0) {
            throw new NoSuchElementException();
        }
        return crew;
    }

    public int member(int skill) {
        return change('m', skill, 0);
    }

    public int leave(int member) {
        return change('x', member, 0);
    }

    public int train(int member) {
        return change('u', member, 0);
    }

    public int boat(int draft, int seats) {
        return change('b', draft, seats);
    }

    public int call(int boat, int hours) {
        return change('c', boat, hours);
    }

    public int borrow(int oars, int hours) {
        return change('o', oars, hours);
    }

    public int giveBack(int loan) {
        return change('g', loan, 0);
    }

    public int limit(int weariness) {
        return change('l', weariness, 0);
    }

    public int pass(int hours) {
        return change('t', hours, 0);
    }

    public int height(int hours) {
        if (!in(hours, 0, 99)) {
            throw new IllegalArgumentException();
        }
        return now.water(now.hour + hours);
    }

    public int memberOf(int member, int what) {
        if (!in(member, 0, now.men.size() - 1)) {
            throw new IndexOutOfBoundsException();
        }
        if (!in(what, 0, 7)) {
            throw new IllegalArgumentException();
        }
        Man m = now.men.get(member);
        return new int[] {m.skill, m.gone ? 2 : m.craft != null ? 1 : 0, m.tired,
            m.craft == null ? -1 : m.craft.number, now.fit().contains(m) ? 1 : 0,
            m.out, m.calls, m.cox}[what];
    }

    public int boatOf(int boat, int what) {
        Craft c = craft(boat);
        if (!in(what, 0, 6)) {
            throw new IllegalArgumentException();
        }
        return new int[] {c.draft, c.seats, c.cox == null ? 0 : 1, c.cox == null ? 0 : c.left,
            c.waited, c.cox == null ? -1 : c.cox.number, c.calls}[what];
    }

    public int crew(int boat) {
        Craft c = craft(boat);
        return bits(now.men.stream().filter(m -> m.craft == c).collect(Collectors.toList()));
    }

    public int able() {
        return bits(now.fit());
    }

    public int wouldGo(int boat) {
        return bits(crewOf(boat));
    }

    public int weariness(int boat) {
        return crewOf(boat).stream().mapToInt(m -> m.tired).sum();
    }

    public int wearinessAgain(int boat) {
        return weariness(boat);
    }

    public int wouldRefuse(int boat) {
        return now.noCall(craft(boat))[0];
    }

    public int callableIn(int boat) {
        craft(boat);
        World then = now.copy();
        for (int hours = 0; hours < 49; hours++) {
            if (then.noCall(then.crafts.get(boat))[0] == 0) {
                return hours;
            }
            then.tick();
        }
        throw new NoSuchElementException();
    }

    public int homeIn(int boat) {
        if (craft(boat).cox == null) {
            throw new NoSuchElementException();
        }
        World then = now.copy();
        while (then.crafts.get(boat).cox != null) {
            then.tick();
        }
        return then.hour - now.hour;
    }

    public int homeInAgain(int boat) {
        return homeIn(boat);
    }

    public int loanOf(int loan, int what) {
        if (!in(loan, 0, now.lent.size() - 1)) {
            throw new IndexOutOfBoundsException();
        }
        if (!in(what, 0, 2)) {
            throw new IllegalArgumentException();
        }
        Lent l = now.lent.get(loan);
        return new int[] {l.oars, l.due, l.late}[what];
    }

    public int free() {
        return now.all() - now.used();
    }

    private static int at(int place, List<Man> men) {
        if (!in(place, 0, men.size() - 1)) {
            throw new NoSuchElementException();
        }
        return men.get(place).number;
    }

    public int least(int place) {
        return at(place, now.men.stream().filter(m -> !m.gone)
                .sorted(Comparator.<Man>comparingInt(m -> m.tired)
                        .thenComparingInt(m -> -m.skill)).collect(Collectors.toList()));
    }

    public int busiest(int place) {
        return at(place, now.men.stream().sorted(Comparator.<Man>comparingInt(m -> -m.out)
                .thenComparingInt(m -> -m.calls)).collect(Collectors.toList()));
    }

    public int append(char character) {
        if (text.length() == 60) {
            throw new IllegalStateException();
        }
        text += character;
        return text.length();
    }

    /** A text can go on if the pattern fails only for want of more of it. */
    private static boolean isStart(String part) {
        Matcher matcher = TEXT.matcher(part);
        return matcher.matches() || matcher.hitEnd();
    }

    private static int faultOf(String text) {
        for (int k = 0; k < text.length(); k++) {
            if (!isStart(text.substring(0, k + 1))) {
                return k;
            }
        }
        return TEXT.matcher(text).matches() ? -1 : text.length();
    }

    public int commands() {
        String script = text;
        text = "";
        fault = faultOf(script);
        if (fault >= 0) {
            throw new IllegalArgumentException();
        }
        World before = now.copy();
        String[] parts = script.split(";");
        for (int k = 0; k < parts.length; k++) {
            char letter = parts[k].charAt(0);
            boolean isWhole = letter == 'l' || letter == 't';
            int cut = isWhole ? parts[k].length() : 2;
            int a = Integer.parseInt(parts[k].substring(1, cut));
            int b = cut == parts[k].length() ? 0 : Integer.parseInt(parts[k].substring(cut));
            int[] no = new int[2];
            act(letter, a, b, no);
            if (no[0] != 0) {
                now = before;
                reason = no(12, k);
                cause = no;
                throw new UnsupportedOperationException();
            }
        }
        remember(before);
        return parts.length;
    }

    public int faultPosition() {
        return fault;
    }

    public int reason(boolean isCause, boolean isDetail) {
        int[] asked = isCause ? cause : reason;
        if (asked[0] == 0) {
            throw new NoSuchElementException();
        }
        return asked[isDetail ? 1 : 0];
    }

    public int line(int boat) {
        Craft c = craft(boat);
        line = boat + "d" + c.draft + "s" + c.seats;
        if (c.cox != null) {
            line += ":" + now.men.stream().filter(m -> m.craft == c)
                    .map(m -> m.number + (m == c.cox ? "*" : ""))
                    .collect(Collectors.joining()) + "+" + c.left;
        }
        return line.length();
    }

    public char character(int index) {
        if (!in(index, 0, line.length() - 1)) {
            throw new IndexOutOfBoundsException();
        }
        return line.charAt(index);
    }

    public double meanWeariness() {
        return now.men.stream().filter(m -> !m.gone).mapToInt(m -> m.tired).average()
                .orElseThrow(ArithmeticException::new);
    }

    public float outShare() {
        return now.used() / (float) now.all();
    }

    public int account(int what) {
        if (!in(what, 0, 12)) {
            throw new IllegalArgumentException();
        }
        return new int[] {now.hour, now.men.size(),
            (int) now.men.stream().filter(m -> m.gone).count(), now.crafts.size(),
            (int) now.crafts.stream().filter(c -> c.cox != null).count(), now.lent.size(),
            now.all(), now.calls, now.home, now.late, now.limit, past.size(),
            text.length()}[what];
    }

    public int undo() {
        if (past.isEmpty()) {
            throw new IllegalStateException();
        }
        now = past.removeLast();
        return past.size();
    }

    public int save() {
        saved = now.copy();
        return now.hour;
    }

    public int restore() {
        if (saved == null) {
            throw new IllegalStateException();
        }
        now = saved.copy();
        past.clear();
        return now.hour;
    }
}
