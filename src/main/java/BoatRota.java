import java.util.NoSuchElementException;

/** The rota of a lifeboat station. What each method promises stands in ../shared/DOC.md. */
public final class BoatRota {
    private static final int NOT_REFUSED = 0;
    private static final int OUT_OF_RANGE = 1;
    private static final int TOO_MANY = 2;
    private static final int UNKNOWN = 3;
    private static final int GONE_FOR_GOOD = 4;
    private static final int OUT_ALREADY = 5;
    private static final int SO_ALREADY = 6;
    private static final int WATER_TOO_LOW = 7;
    private static final int NO_COXSWAIN = 8;
    private static final int TOO_FEW_MEMBERS = 9;
    private static final int TOO_FEW_SKILLED = 10;
    private static final int TOO_FEW_OARS = 11;
    private static final int COMMAND_REFUSED = 12;

    private static final int HAND = 0;
    private static final int OAR = 1;
    private static final int COXSWAIN = 2;

    private static final int ASHORE = -1;
    private static final int GONE = -2;
    private static final int NOBODY = -1;

    private static final int MOST_MEMBERS = 10;
    private static final int MOST_BOATS = 3;
    private static final int MOST_LOANS = 4;
    private static final int MOST_UNDONE = 8;

    private static final int OWN_OARS = 6;
    private static final int MOST_OARS_LENT = 9;
    private static final int LONGEST_LOAN = 48;
    private static final int MOST_DRAFT = 6;
    private static final int LEAST_SEATS = 2;
    private static final int MOST_SEATS = 6;
    private static final int LONGEST_CALL_OUT = 9;
    private static final int FIRST_LIMIT = 8;
    private static final int MOST_LIMIT = 20;
    private static final int MOST_HOURS = 99;
    private static final int FORESIGHT = 48;

    private static final int TIDE = 12;
    private static final int HIGH_WATER = 6;
    // A boat is home at the latest in the first high water behind its last hour.
    private static final int LATEST_HOME = LONGEST_CALL_OUT + TIDE;

    private static final int TEXT_ROOM = 60;
    // The shortest command has a letter, a digit and the ";" behind it.
    private static final int MOST_COMMANDS = TEXT_ROOM / 3;
    private static final int NO_FAULT = -1;

    private static final Deed[] DEEDS = Deed.values();

    private final Station station = new Station();
    private final Station spare = new Station();
    private final Station snapshot = new Station();
    private boolean isSaved = false;
    private final Station[] past = new Station[MOST_UNDONE];
    private int pastCount = 0;
    private final Refusal kept = new Refusal();
    private final Refusal keptCause = new Refusal();
    private final Refusal found = new Refusal();
    private final Script script = new Script();
    private int latestFault = NO_FAULT;
    private final StringBuilder written = new StringBuilder();

    public BoatRota() {
        for (int k = 0; k < MOST_UNDONE; k++) {
            past[k] = new Station();
        }
    }

    public int member(int skill) throws UnsupportedOperationException {
        return change(Deed.MEMBER, skill, 0);
    }

    public int leave(int member) throws UnsupportedOperationException {
        return change(Deed.LEAVE, member, 0);
    }

    public int train(int member) throws UnsupportedOperationException {
        return change(Deed.TRAIN, member, 0);
    }

    public int boat(int draft, int seats) throws UnsupportedOperationException {
        return change(Deed.BOAT, draft, seats);
    }

    public int call(int boat, int hours) throws UnsupportedOperationException {
        return change(Deed.CALL, boat, hours);
    }

    public int borrow(int oars, int hours) throws UnsupportedOperationException {
        return change(Deed.BORROW, oars, hours);
    }

    public int giveBack(int loan) throws UnsupportedOperationException {
        return change(Deed.GIVE_BACK, loan, 0);
    }

    public int limit(int weariness) throws UnsupportedOperationException {
        return change(Deed.LIMIT, weariness, 0);
    }

    public int pass(int hours) throws UnsupportedOperationException {
        return change(Deed.PASS, hours, 0);
    }

    public int height(int hours) throws IllegalArgumentException {
        if (hours < 0 || hours > MOST_HOURS) {
            throw new IllegalArgumentException("the hours are out of range");
        }
        return heightAt(station.hour + hours);
    }

    public int memberOf(int member, int what)
            throws IndexOutOfBoundsException, IllegalArgumentException {
        if (!station.hasMember(member)) {
            throw new IndexOutOfBoundsException("no such member");
        }
        Member one = station.members[member];
        switch (what) {
            case 0: return one.skill;
            case 1: return one.place == ASHORE ? 0 : one.place == GONE ? 2 : 1;
            case 2: return one.weariness;
            case 3: return one.isOut() ? one.place : -1;
            case 4: return one.isAble(station.limit) ? 1 : 0;
            case 5: return one.hoursOut;
            case 6: return one.callOuts;
            case 7: return one.callOutsAsCoxswain;
            default: throw new IllegalArgumentException("no such number of a member");
        }
    }

    public int boatOf(int boat, int what)
            throws IndexOutOfBoundsException, IllegalArgumentException {
        requireBoat(boat);
        Boat one = station.boats[boat];
        switch (what) {
            case 0: return one.draft;
            case 1: return one.seats;
            case 2: return one.isOut() ? 1 : 0;
            case 3: return one.hoursLeft;
            case 4: return one.hoursWaited;
            case 5: return one.coxswain;
            case 6: return one.callOuts;
            default: throw new IllegalArgumentException("no such number of a boat");
        }
    }

    public int crew(int boat) throws IndexOutOfBoundsException {
        requireBoat(boat);
        return station.membersAt(boat);
    }

    public int able() {
        return station.ableMembers();
    }

    public int wouldGo(int boat) throws IndexOutOfBoundsException, NoSuchElementException {
        requireBoat(boat);
        requireCrew(boat);
        return station.chosenCrew(boat);
    }

    public int weariness(int boat) throws IndexOutOfBoundsException, NoSuchElementException {
        requireBoat(boat);
        requireCrew(boat);
        return station.wearinessOf(station.chosenCrew(boat));
    }

    public int wearinessAgain(int boat) throws IndexOutOfBoundsException, NoSuchElementException {
        requireBoat(boat);
        requireCrew(boat);
        return station.leastWearinessOfAll(boat);
    }

    public int wouldRefuse(int boat) throws IndexOutOfBoundsException {
        requireBoat(boat);
        station.judgeCall(boat, 1, found);
        return found.number;
    }

    public int callableIn(int boat) throws IndexOutOfBoundsException, NoSuchElementException {
        requireBoat(boat);
        spare.copyFrom(station);
        for (int hours = 0; hours <= FORESIGHT; hours++) {
            spare.judgeCall(boat, 1, found);
            if (!found.isThere()) {
                return hours;
            }
            spare.passHours(1);
        }
        throw new NoSuchElementException("the boat could not be called out");
    }

    public int homeIn(int boat) throws IndexOutOfBoundsException, NoSuchElementException {
        requireBoat(boat);
        requireOut(boat);
        spare.copyFrom(station);
        int hours = 0;
        while (hours < LATEST_HOME && spare.boats[boat].isOut()) {
            spare.passHours(1);
            hours++;
        }
        return hours;
    }

    public int homeInAgain(int boat) throws IndexOutOfBoundsException, NoSuchElementException {
        requireBoat(boat);
        requireOut(boat);
        Boat one = station.boats[boat];
        int hours = Math.max(one.hoursLeft, 1);
        while (hours < LATEST_HOME && heightAt(station.hour + hours) < one.draft) {
            hours++;
        }
        return hours;
    }

    public int loanOf(int loan, int what)
            throws IndexOutOfBoundsException, IllegalArgumentException {
        if (!station.hasLoan(loan)) {
            throw new IndexOutOfBoundsException("no such loan");
        }
        Loan one = station.loans[loan];
        switch (what) {
            case 0: return one.oars;
            case 1: return one.hoursUntilDue;
            case 2: return one.hoursLate;
            default: throw new IllegalArgumentException("no such number of a loan");
        }
    }

    public int free() {
        return station.freeOars();
    }

    public int least(int place) throws NoSuchElementException {
        int member = station.memberInPlace(place, station.staying(), false);
        if (member == NOBODY) {
            throw new NoSuchElementException("no such place");
        }
        return member;
    }

    public int busiest(int place) throws NoSuchElementException {
        int member = station.memberInPlace(place, station.everyone(), true);
        if (member == NOBODY) {
            throw new NoSuchElementException("no such place");
        }
        return member;
    }

    public int append(char character) throws IllegalStateException {
        if (script.length >= TEXT_ROOM) {
            throw new IllegalStateException("the text buffer is full");
        }
        script.add(character);
        return script.length;
    }

    public int commands() throws IllegalArgumentException, UnsupportedOperationException {
        latestFault = script.read();
        script.length = 0;
        if (latestFault != NO_FAULT) {
            throw new IllegalArgumentException("the text has a fault");
        }
        spare.copyFrom(station);
        int done = carryOutAll();
        if (done < script.count) {
            station.copyFrom(spare);
            kept.set(COMMAND_REFUSED, done);
            keptCause.copyFrom(found);
            throw new UnsupportedOperationException("a command is refused");
        }
        remember(spare);
        return script.count;
    }

    public int faultPosition() {
        return latestFault;
    }

    public int reason(boolean isCause, boolean isDetail) throws NoSuchElementException {
        Refusal asked = isCause ? keptCause : kept;
        if (!asked.isThere()) {
            throw new NoSuchElementException("there is no such reason");
        }
        return isDetail ? asked.detail : asked.number;
    }

    public int line(int boat) throws IndexOutOfBoundsException {
        requireBoat(boat);
        Boat one = station.boats[boat];
        written.setLength(0);
        written.append(boat);
        written.append('d');
        written.append(one.draft);
        written.append('s');
        written.append(one.seats);
        if (one.isOut()) {
            written.append(':');
            writeCrew(station.membersAt(boat), one.coxswain);
            written.append('+');
            written.append(one.hoursLeft);
        }
        return written.length();
    }

    public char character(int index) throws IndexOutOfBoundsException {
        if (index < 0 || index >= written.length()) {
            throw new IndexOutOfBoundsException("no such character of the line");
        }
        return written.charAt(index);
    }

    public double meanWeariness() throws ArithmeticException {
        int staying = station.staying();
        if (staying == 0) {
            throw new ArithmeticException("there are no members");
        }
        return (double) station.wearinessOf(staying) / (double) Integer.bitCount(staying);
    }

    public float outShare() {
        // The station's own oars are always there, so this never divides by 0.
        return (float) station.oarsOut() / (float) station.allOars();
    }

    public int account(int what) throws IllegalArgumentException {
        switch (what) {
            case 0: return station.hour;
            case 1: return station.memberCount;
            case 2: return Integer.bitCount(station.membersAt(GONE));
            case 3: return station.boatCount;
            case 4: return station.boatsOut();
            case 5: return station.loanCount;
            case 6: return station.allOars();
            case 7: return station.callOuts;
            case 8: return station.boatsCameIn;
            case 9: return station.hoursLate;
            case 10: return station.limit;
            case 11: return pastCount;
            case 12: return script.length;
            default: throw new IllegalArgumentException("no such account");
        }
    }

    public int undo() throws IllegalStateException {
        if (pastCount <= 0) {
            throw new IllegalStateException("there is nothing to undo");
        }
        pastCount--;
        station.copyFrom(past[pastCount]);
        return pastCount;
    }

    public int save() {
        snapshot.copyFrom(station);
        isSaved = true;
        return station.hour;
    }

    public int restore() throws IllegalStateException {
        if (!isSaved) {
            throw new IllegalStateException("there is no snapshot");
        }
        station.copyFrom(snapshot);
        pastCount = 0;
        return station.hour;
    }

    private int change(Deed deed, int first, int second) {
        judge(deed, first, second);
        if (found.isThere()) {
            kept.copyFrom(found);
            keptCause.clear();
            throw new UnsupportedOperationException("refused");
        }
        remember(station);
        return carryOut(deed, first, second);
    }

    private void judge(Deed deed, int first, int second) {
        switch (deed) {
            case MEMBER: station.judgeMember(first, found); break;
            case LEAVE: station.judgeLeave(first, found); break;
            case TRAIN: station.judgeTrain(first, found); break;
            case BOAT: station.judgeBoat(first, second, found); break;
            case CALL: station.judgeCall(first, second, found); break;
            case BORROW: station.judgeBorrow(first, second, found); break;
            case GIVE_BACK: station.judgeGiveBack(first, found); break;
            case LIMIT: station.judgeLimit(first, found); break;
            default: station.judgePass(first, found); break;
        }
    }

    /** To be called only behind a judge that found nothing: it looks at no number again. */
    private int carryOut(Deed deed, int first, int second) {
        switch (deed) {
            case MEMBER: return station.addMember(first);
            case LEAVE: return station.letGo(first);
            case TRAIN: return station.raiseSkill(first);
            case BOAT: return station.addBoat(first, second);
            case CALL: return station.sendOut(first, second);
            case BORROW: return station.addLoan(first, second);
            case GIVE_BACK: return station.endLoan(first);
            case LIMIT: return station.setLimit(first);
            default: return station.passHours(first);
        }
    }

    /** Returns how many commands were carried out before one was refused. */
    private int carryOutAll() {
        for (int k = 0; k < script.count; k++) {
            judge(script.deeds[k], script.firsts[k], script.seconds[k]);
            if (found.isThere()) {
                return k;
            }
            carryOut(script.deeds[k], script.firsts[k], script.seconds[k]);
        }
        return script.count;
    }

    private void remember(Station before) {
        if (pastCount == MOST_UNDONE) {
            forgetOldest();
        }
        past[pastCount].copyFrom(before);
        pastCount++;
    }

    private void forgetOldest() {
        Station oldest = past[0];
        for (int k = 1; k < MOST_UNDONE; k++) {
            past[k - 1] = past[k];
        }
        past[MOST_UNDONE - 1] = oldest;
        pastCount--;
    }

    private void writeCrew(int crew, int coxswain) {
        for (int member = 0; member < MOST_MEMBERS; member++) {
            if (isIn(member, crew)) {
                written.append(member);
            }
            if (member == coxswain) {
                written.append('*');
            }
        }
    }

    private void requireBoat(int boat) {
        if (!station.hasBoat(boat)) {
            throw new IndexOutOfBoundsException("no such boat");
        }
    }

    private void requireCrew(int boat) {
        station.judgeCrew(boat, found);
        if (found.isThere()) {
            throw new NoSuchElementException("there is no crew for the boat");
        }
    }

    private void requireOut(int boat) {
        if (!station.boats[boat].isOut()) {
            throw new NoSuchElementException("the boat is not out");
        }
    }

    private static int heightAt(int hour) {
        int rest = hour % TIDE;
        return rest <= HIGH_WATER ? rest : TIDE - rest;
    }

    private static boolean isIn(int member, int members) {
        return (members & (1 << member)) != 0;
    }

    /** What changes the station: its letter in a text, and the most digits of its numbers. */
    private enum Deed {
        MEMBER('m', 1, 0),
        LEAVE('x', 1, 0),
        TRAIN('u', 1, 0),
        BOAT('b', 1, 1),
        CALL('c', 1, 1),
        BORROW('o', 1, 2),
        GIVE_BACK('g', 1, 0),
        LIMIT('l', 2, 0),
        PASS('t', 2, 0);

        final int letter;
        final int digitsOfFirst;
        final int digitsOfSecond;

        Deed(int letter, int digitsOfFirst, int digitsOfSecond) {
            this.letter = letter;
            this.digitsOfFirst = digitsOfFirst;
            this.digitsOfSecond = digitsOfSecond;
        }
    }

    /** The number of a reason, and its detail. */
    private static final class Refusal {
        int number = NOT_REFUSED;
        int detail = 0;

        boolean isThere() {
            return number != NOT_REFUSED;
        }

        void set(int number, int detail) {
            this.number = number;
            this.detail = detail;
        }

        void clear() {
            set(NOT_REFUSED, 0);
        }

        void copyFrom(Refusal other) {
            set(other.number, other.detail);
        }
    }

    /** The text buffer, and the commands that were read from it the latest time. */
    private static final class Script {
        final char[] signs = new char[TEXT_ROOM];
        int length = 0;
        final Deed[] deeds = new Deed[MOST_COMMANDS];
        final int[] firsts = new int[MOST_COMMANDS];
        final int[] seconds = new int[MOST_COMMANDS];
        int count = 0;
        private int at = 0;

        void add(char sign) {
            signs[length] = sign;
            length++;
        }

        /** Reads the whole text; returns its fault position, or NO_FAULT. */
        int read() {
            count = 0;
            at = 0;
            boolean isNextDue = true;
            for (int k = 0; k < MOST_COMMANDS && isNextDue; k++) {
                if (!readCommand(k)) {
                    return at;
                }
                count++;
                isNextDue = at < length && signs[at] == ';';
                if (isNextDue) {
                    at++;
                }
            }
            return isNextDue || at < length ? at : NO_FAULT;
        }

        private boolean readCommand(int index) {
            Deed deed = readDeed();
            if (deed == null) {
                return false;
            }
            int first = readNumber(deed.digitsOfFirst);
            if (first < 0) {
                return false;
            }
            int second = deed.digitsOfSecond == 0 ? 0 : readNumber(deed.digitsOfSecond);
            if (second < 0) {
                return false;
            }
            deeds[index] = deed;
            firsts[index] = first;
            seconds[index] = second;
            return true;
        }

        private Deed readDeed() {
            if (at >= length) {
                return null;
            }
            for (int k = 0; k < DEEDS.length; k++) {
                if (DEEDS[k].letter == signs[at]) {
                    at++;
                    return DEEDS[k];
                }
            }
            return null;
        }

        /** Returns the number, or -1 if there is no digit. */
        private int readNumber(int mostDigits) {
            int number = -1;
            for (int k = 0; k < mostDigits && isDigitNext(); k++) {
                number = Math.max(number, 0) * 10 + (signs[at] - '0');
                at++;
            }
            return number;
        }

        private boolean isDigitNext() {
            return at < length && signs[at] >= '0' && signs[at] <= '9';
        }
    }

    private static final class Member {
        int skill;
        /** The boat with which it is out, or ASHORE, or GONE. */
        int place;
        int weariness;
        int hoursOut;
        int callOuts;
        int callOutsAsCoxswain;

        void start(int skill) {
            this.skill = skill;
            place = ASHORE;
            weariness = 0;
            hoursOut = 0;
            callOuts = 0;
            callOutsAsCoxswain = 0;
        }

        boolean isOut() {
            return place >= 0;
        }

        boolean isAble(int limit) {
            return place == ASHORE && weariness < limit;
        }

        void copyFrom(Member other) {
            skill = other.skill;
            place = other.place;
            weariness = other.weariness;
            hoursOut = other.hoursOut;
            callOuts = other.callOuts;
            callOutsAsCoxswain = other.callOutsAsCoxswain;
        }
    }

    private static final class Boat {
        int draft;
        int seats;
        /** NOBODY if the boat is not out. */
        int coxswain;
        int hoursLeft;
        int hoursWaited;
        int callOuts;

        void start(int draft, int seats) {
            this.draft = draft;
            this.seats = seats;
            coxswain = NOBODY;
            hoursLeft = 0;
            hoursWaited = 0;
            callOuts = 0;
        }

        boolean isOut() {
            return coxswain != NOBODY;
        }

        int oarsNeeded() {
            return seats - 1;
        }

        int skilledNeeded() {
            return (seats - 1) / 2;
        }

        void copyFrom(Boat other) {
            draft = other.draft;
            seats = other.seats;
            coxswain = other.coxswain;
            hoursLeft = other.hoursLeft;
            hoursWaited = other.hoursWaited;
            callOuts = other.callOuts;
        }
    }

    private static final class Loan {
        int oars;
        int hoursUntilDue;
        int hoursLate;

        void start(int oars, int hours) {
            this.oars = oars;
            hoursUntilDue = hours;
            hoursLate = 0;
        }

        void copyFrom(Loan other) {
            oars = other.oars;
            hoursUntilDue = other.hoursUntilDue;
            hoursLate = other.hoursLate;
        }
    }

    /**
     * All that can be undone. Its rows are made once, and started again when they are needed,
     * since what an object makes in all its calls is counted; those behind the counts are never
     * looked at. Sets of members are bits: bit k for member k.
     */
    private static final class Station {
        final Member[] members = new Member[MOST_MEMBERS];
        final Boat[] boats = new Boat[MOST_BOATS];
        final Loan[] loans = new Loan[MOST_LOANS];
        int memberCount = 0;
        int boatCount = 0;
        int loanCount = 0;
        int hour = 0;
        int limit = FIRST_LIMIT;
        int callOuts = 0;
        int boatsCameIn = 0;
        int hoursLate = 0;

        Station() {
            for (int k = 0; k < MOST_MEMBERS; k++) {
                members[k] = new Member();
            }
            for (int k = 0; k < MOST_BOATS; k++) {
                boats[k] = new Boat();
            }
            for (int k = 0; k < MOST_LOANS; k++) {
                loans[k] = new Loan();
            }
        }

        void copyFrom(Station other) {
            for (int k = 0; k < MOST_MEMBERS; k++) {
                members[k].copyFrom(other.members[k]);
            }
            for (int k = 0; k < MOST_BOATS; k++) {
                boats[k].copyFrom(other.boats[k]);
            }
            for (int k = 0; k < MOST_LOANS; k++) {
                loans[k].copyFrom(other.loans[k]);
            }
            memberCount = other.memberCount;
            boatCount = other.boatCount;
            loanCount = other.loanCount;
            hour = other.hour;
            limit = other.limit;
            callOuts = other.callOuts;
            boatsCameIn = other.boatsCameIn;
            hoursLate = other.hoursLate;
        }

        boolean hasMember(int member) {
            return member >= 0 && member < memberCount;
        }

        boolean hasBoat(int boat) {
            return boat >= 0 && boat < boatCount;
        }

        boolean hasLoan(int loan) {
            return loan >= 0 && loan < loanCount;
        }

        void judgeMember(int skill, Refusal why) {
            if (skill < HAND || skill > COXSWAIN) {
                why.set(OUT_OF_RANGE, 0);
            } else if (memberCount >= MOST_MEMBERS) {
                why.set(TOO_MANY, MOST_MEMBERS);
            } else {
                why.clear();
            }
        }

        int addMember(int skill) {
            members[memberCount].start(skill);
            memberCount++;
            return memberCount - 1;
        }

        void judgeLeave(int member, Refusal why) {
            if (!hasMember(member)) {
                why.set(UNKNOWN, member);
            } else if (members[member].place == GONE) {
                why.set(GONE_FOR_GOOD, 0);
            } else if (members[member].isOut()) {
                why.set(OUT_ALREADY, members[member].place);
            } else {
                why.clear();
            }
        }

        int letGo(int member) {
            members[member].place = GONE;
            return Integer.bitCount(staying());
        }

        void judgeTrain(int member, Refusal why) {
            judgeLeave(member, why);
            if (!why.isThere() && members[member].skill == COXSWAIN) {
                why.set(SO_ALREADY, 0);
            }
        }

        int raiseSkill(int member) {
            members[member].skill++;
            return members[member].skill;
        }

        void judgeBoat(int draft, int seats, Refusal why) {
            if (draft < 0 || draft > MOST_DRAFT || seats < LEAST_SEATS || seats > MOST_SEATS) {
                why.set(OUT_OF_RANGE, 0);
            } else if (boatCount >= MOST_BOATS) {
                why.set(TOO_MANY, MOST_BOATS);
            } else {
                why.clear();
            }
        }

        int addBoat(int draft, int seats) {
            boats[boatCount].start(draft, seats);
            boatCount++;
            return boatCount - 1;
        }

        void judgeCall(int boat, int hours, Refusal why) {
            if (!hasBoat(boat)) {
                why.set(UNKNOWN, boat);
            } else if (hours < 1 || hours > LONGEST_CALL_OUT) {
                why.set(OUT_OF_RANGE, 0);
            } else if (boats[boat].isOut()) {
                why.set(OUT_ALREADY, boat);
            } else if (heightAt(hour) < boats[boat].draft) {
                why.set(WATER_TOO_LOW, boats[boat].draft - heightAt(hour));
            } else {
                judgeCrew(boat, why);
                int oarsMissing = boats[boat].oarsNeeded() - freeOars();
                if (!why.isThere() && oarsMissing > 0) {
                    why.set(TOO_FEW_OARS, oarsMissing);
                }
            }
        }

        void judgeCrew(int boat, Refusal why) {
            int able = ableMembers();
            int missing = boats[boat].seats - Integer.bitCount(able);
            int skilled = Integer.bitCount(able & skilledMembers(OAR));
            // The coxswain is one of the skilled, but none of the others.
            int skilledMissing = boats[boat].skilledNeeded() + 1 - skilled;
            if ((able & skilledMembers(COXSWAIN)) == 0) {
                why.set(NO_COXSWAIN, 0);
            } else if (missing > 0) {
                why.set(TOO_FEW_MEMBERS, missing);
            } else if (skilledMissing > 0) {
                why.set(TOO_FEW_SKILLED, skilledMissing);
            } else {
                why.clear();
            }
        }

        int sendOut(int boat, int hours) {
            int coxswain = chosenCoxswain();
            int crew = chosenCrew(boat);
            for (int member = 0; member < memberCount; member++) {
                if (isIn(member, crew)) {
                    members[member].place = boat;
                    members[member].callOuts++;
                }
                if (member == coxswain) {
                    members[member].callOutsAsCoxswain++;
                }
            }
            boats[boat].coxswain = coxswain;
            boats[boat].hoursLeft = hours;
            boats[boat].callOuts++;
            callOuts++;
            return coxswain;
        }

        void judgeBorrow(int oars, int hours, Refusal why) {
            if (oars < 1 || oars > MOST_OARS_LENT || hours < 1 || hours > LONGEST_LOAN) {
                why.set(OUT_OF_RANGE, 0);
            } else if (loanCount >= MOST_LOANS) {
                why.set(TOO_MANY, MOST_LOANS);
            } else {
                why.clear();
            }
        }

        int addLoan(int oars, int hours) {
            loans[loanCount].start(oars, hours);
            loanCount++;
            return loanCount - 1;
        }

        void judgeGiveBack(int loan, Refusal why) {
            if (!hasLoan(loan)) {
                why.set(UNKNOWN, loan);
            } else if (loans[loan].oars > freeOars()) {
                why.set(TOO_FEW_OARS, loans[loan].oars - freeOars());
            } else {
                why.clear();
            }
        }

        int endLoan(int loan) {
            removeLoan(loan);
            return freeOars();
        }

        private void removeLoan(int loan) {
            Loan ended = loans[loan];
            for (int k = loan + 1; k < loanCount; k++) {
                loans[k - 1] = loans[k];
            }
            loans[loanCount - 1] = ended;
            loanCount--;
        }

        void judgeLimit(int weariness, Refusal why) {
            if (weariness < 1 || weariness > MOST_LIMIT) {
                why.set(OUT_OF_RANGE, 0);
            } else if (weariness == limit) {
                why.set(SO_ALREADY, 0);
            } else {
                why.clear();
            }
        }

        int setLimit(int weariness) {
            int before = limit;
            limit = weariness;
            return before;
        }

        void judgePass(int hours, Refusal why) {
            if (hours < 1 || hours > MOST_HOURS) {
                why.set(OUT_OF_RANGE, 0);
            } else {
                why.clear();
            }
        }

        /** Returns how many boats come in. */
        int passHours(int hours) {
            int cameInBefore = boatsCameIn;
            for (int k = 0; k < hours; k++) {
                hour++;
                tireMembers();
                sailBoats();
                ageLoans();
            }
            return boatsCameIn - cameInBefore;
        }

        private void tireMembers() {
            for (int member = 0; member < memberCount; member++) {
                Member one = members[member];
                if (one.isOut()) {
                    one.weariness += boats[one.place].coxswain == member ? 2 : 1;
                    one.hoursOut++;
                } else if (one.place == ASHORE && one.weariness > 0) {
                    one.weariness--;
                }
            }
        }

        private void sailBoats() {
            for (int boat = 0; boat < boatCount; boat++) {
                if (boats[boat].isOut()) {
                    sailBoat(boat);
                }
            }
        }

        private void sailBoat(int boat) {
            Boat one = boats[boat];
            if (one.hoursLeft > 0) {
                one.hoursLeft--;
            }
            if (one.hoursLeft > 0) {
                return;
            }
            if (heightAt(hour) >= one.draft) {
                bringIn(boat);
            } else {
                one.hoursWaited++;
            }
        }

        private void bringIn(int boat) {
            for (int member = 0; member < memberCount; member++) {
                if (members[member].place == boat) {
                    members[member].place = ASHORE;
                }
            }
            boats[boat].coxswain = NOBODY;
            boatsCameIn++;
        }

        private void ageLoans() {
            int out = oarsOut();
            int before = loanCount;
            int loan = 0;
            for (int k = 0; k < before; k++) {
                if (loans[loan].hoursUntilDue > 0) {
                    loans[loan].hoursUntilDue--;
                }
                boolean isDue = loans[loan].hoursUntilDue == 0;
                if (isDue && loans[loan].oars <= allOars() - out) {
                    // The next loan has this number now.
                    removeLoan(loan);
                    continue;
                }
                if (isDue) {
                    loans[loan].hoursLate++;
                    hoursLate++;
                }
                loan++;
            }
        }

        int allOars() {
            int oars = OWN_OARS;
            for (int loan = 0; loan < loanCount; loan++) {
                oars += loans[loan].oars;
            }
            return oars;
        }

        int oarsOut() {
            int oars = 0;
            for (int boat = 0; boat < boatCount; boat++) {
                if (boats[boat].isOut()) {
                    oars += boats[boat].oarsNeeded();
                }
            }
            return oars;
        }

        int freeOars() {
            return allOars() - oarsOut();
        }

        int boatsOut() {
            int out = 0;
            for (int boat = 0; boat < boatCount; boat++) {
                if (boats[boat].isOut()) {
                    out++;
                }
            }
            return out;
        }

        int everyone() {
            return (1 << memberCount) - 1;
        }

        int staying() {
            return everyone() & ~membersAt(GONE);
        }

        /** The members in a place: a boat, ASHORE or GONE. */
        int membersAt(int place) {
            int there = 0;
            for (int member = 0; member < memberCount; member++) {
                if (members[member].place == place) {
                    there |= 1 << member;
                }
            }
            return there;
        }

        int ableMembers() {
            int able = 0;
            for (int member = 0; member < memberCount; member++) {
                if (members[member].isAble(limit)) {
                    able |= 1 << member;
                }
            }
            return able;
        }

        private int skilledMembers(int leastSkill) {
            int skilled = 0;
            for (int member = 0; member < memberCount; member++) {
                if (members[member].skill >= leastSkill) {
                    skilled |= 1 << member;
                }
            }
            return skilled;
        }

        int wearinessOf(int group) {
            int sum = 0;
            for (int member = 0; member < memberCount; member++) {
                if (isIn(member, group)) {
                    sum += members[member].weariness;
                }
            }
            return sum;
        }

        private int chosenCoxswain() {
            return leastWearyOf(ableMembers() & skilledMembers(COXSWAIN));
        }

        int chosenCrew(int boat) {
            int able = ableMembers();
            int crew = filledUp(0, able & skilledMembers(COXSWAIN), 1);
            crew = filledUp(crew, able & skilledMembers(OAR), boats[boat].skilledNeeded() + 1);
            return filledUp(crew, able, boats[boat].seats);
        }

        /** The crew with the least weary of the candidates, until there are so many in it. */
        private int filledUp(int crew, int candidates, int size) {
            int filled = crew;
            for (int k = Integer.bitCount(crew); k < size; k++) {
                int next = leastWearyOf(candidates & ~filled);
                if (next != NOBODY) {
                    filled |= 1 << next;
                }
            }
            return filled;
        }

        private int leastWearyOf(int candidates) {
            int least = NOBODY;
            for (int member = 0; member < memberCount; member++) {
                boolean isCandidate = (candidates & (1 << member)) != 0;
                if (isCandidate && (least == NOBODY
                        || members[member].weariness < members[least].weariness)) {
                    least = member;
                }
            }
            return least;
        }

        /** Tries every crew there can be; to be called only if there is one that would do. */
        int leastWearinessOfAll(int boat) {
            int able = ableMembers();
            int coxswains = skilledMembers(COXSWAIN);
            int skilled = skilledMembers(OAR);
            // No crew is wearier than all who are able together.
            int least = wearinessOf(able);
            for (int crew = 1; crew <= able; crew++) {
                boolean isFull = (crew & ~able) == 0
                        && Integer.bitCount(crew) == boats[boat].seats;
                // More than are needed, since the coxswain is one of the skilled too.
                if (isFull && (crew & coxswains) != 0
                        && Integer.bitCount(crew & skilled) > boats[boat].skilledNeeded()) {
                    least = Math.min(least, wearinessOf(crew));
                }
            }
            return least;
        }

        /** The member before whom so many of the group come, or NOBODY. */
        int memberInPlace(int place, int group, boolean isByHoursOut) {
            for (int member = 0; member < memberCount; member++) {
                if (isIn(member, group) && countBefore(member, group, isByHoursOut) == place) {
                    return member;
                }
            }
            return NOBODY;
        }

        private int countBefore(int member, int group, boolean isByHoursOut) {
            int count = 0;
            for (int other = 0; other < memberCount; other++) {
                boolean isBefore = isByHoursOut
                        ? isBusier(other, member) : isFresher(other, member);
                if (isIn(other, group) && isBefore) {
                    count++;
                }
            }
            return count;
        }

        private boolean isFresher(int member, int than) {
            Member one = members[member];
            Member other = members[than];
            if (one.weariness != other.weariness) {
                return one.weariness < other.weariness;
            }
            return one.skill != other.skill ? one.skill > other.skill : member < than;
        }

        private boolean isBusier(int member, int than) {
            Member one = members[member];
            Member other = members[than];
            if (one.hoursOut != other.hoursOut) {
                return one.hoursOut > other.hoursOut;
            }
            return one.callOuts != other.callOuts ? one.callOuts > other.callOuts : member < than;
        }
    }
}
