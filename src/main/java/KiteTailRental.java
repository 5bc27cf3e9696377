import java.util.NoSuchElementException;

/**
 * A rental system for kite tails: committees rent and return tails by motions that are seconded
 * and voted on, and pay for them by the hour.
 *
 * <p>The rules live in {@link State}. Each change has a fault function there that answers 0, or the
 * position that the exception which is due has in the throws list of the method; both the methods
 * of the face and the commands of a text ask it, so that they can never differ.
 */
public final class KiteTailRental {
    private static final int COMMITTEE_LIMIT = 6;
    private static final int TAIL_LIMIT = 8;
    private static final int MOTION_LIMIT = 8;
    private static final int UNDO_LIMIT = 8;
    private static final int TEXT_LIMIT = 60;

    private static final int MOST_MEMBERS = 9;
    private static final int GREATEST_LENGTH = 9;
    private static final int MOST_COINS = 99;
    private static final int GREATEST_STRENGTH = 20;
    private static final int MOST_HOURS_PASSED = 12;
    private static final int MOST_HOURS_FORECAST = 24;
    private static final int HOURS_CHECKED = 12;
    private static final int ARREARS_LIMIT = 30;

    private static final char TO_RENT = 'r';
    private static final char TO_RETURN = 't';
    private static final char TO_GROUND = 'g';

    private static final int NONE = -1;

    private final State state = new State();
    /** A copy that lives only during one call. */
    private final State spare = new State();
    private final State snapshot = new State();
    private boolean hasSnapshot = false;
    private final History history = new History();
    private final Commands commands = new Commands();
    private int errorPosition = NONE;
    private int failedCommand = NONE;
    private int failedException = NONE;
    private final StringBuilder line = new StringBuilder();

    public KiteTailRental() {
    }

    // ---- committees and tails

    public int addCommittee(int members) throws IllegalArgumentException, IllegalStateException {
        int fault = state.committeeFault(members);
        if (fault == 1) {
            throw new IllegalArgumentException("a committee has 1 to 9 members");
        }
        if (fault == 2) {
            throw new IllegalStateException("there are 6 committees");
        }
        history.keep(state);
        return state.enterCommittee(members);
    }

    public int addTail(int length) throws IllegalArgumentException, IllegalStateException {
        int fault = state.tailFault(length);
        if (fault == 1) {
            throw new IllegalArgumentException("a tail has a length from 1 to 9");
        }
        if (fault == 2) {
            throw new IllegalStateException("there are 8 tails");
        }
        history.keep(state);
        return state.enterTail(length);
    }

    public int pay(int committee, int coins)
            throws IndexOutOfBoundsException, IllegalArgumentException, UnsupportedOperationException {
        int fault = state.payFault(committee, coins);
        if (fault == 1) {
            throw new IndexOutOfBoundsException("no such committee");
        }
        if (fault == 2) {
            throw new IllegalArgumentException("1 to 99 coins can be paid");
        }
        if (fault == 3) {
            throw new UnsupportedOperationException("more coins than arrears");
        }
        history.keep(state);
        return state.takeCoins(committee, coins);
    }

    public int launch(int committee) throws IndexOutOfBoundsException, IllegalStateException {
        int fault = state.launchFault(committee);
        if (fault == 1) {
            throw new IndexOutOfBoundsException("no such committee");
        }
        if (fault == 2) {
            throw new IllegalStateException("the kite flies, or the committee has arrears");
        }
        history.keep(state);
        return state.letFly(committee);
    }

    public int committeeCount() {
        return state.committees;
    }

    public int members(int committee) throws IndexOutOfBoundsException {
        requireCommittee(committee);
        return state.members[committee];
    }

    public int arrears(int committee) throws IndexOutOfBoundsException {
        requireCommittee(committee);
        return state.arrears[committee];
    }

    public boolean isFlying(int committee) throws IndexOutOfBoundsException {
        requireCommittee(committee);
        return state.flying[committee];
    }

    public int tailLength(int committee) throws IndexOutOfBoundsException {
        requireCommittee(committee);
        return state.lengthBehind(committee);
    }

    public int tailsOf(int committee) throws IndexOutOfBoundsException {
        requireCommittee(committee);
        return state.tailsBehind(committee);
    }

    public int tailCount() {
        return state.tails;
    }

    public int length(int tail) throws IndexOutOfBoundsException {
        requireTail(tail);
        return state.lengths[tail];
    }

    public boolean isFree(int tail) throws IndexOutOfBoundsException {
        requireTail(tail);
        return state.renters[tail] == NONE;
    }

    public int renterOf(int tail) throws IndexOutOfBoundsException, NoSuchElementException {
        requireTail(tail);
        if (state.renters[tail] == NONE) {
            throw new NoSuchElementException("the tail is free");
        }
        return state.renters[tail];
    }

    public int shortestFreeTail() throws NoSuchElementException {
        int tail = state.shortestFree();
        if (tail == NONE) {
            throw new NoSuchElementException("no tail is free");
        }
        return tail;
    }

    // ---- motions

    public int moveToRent(int mover, int tail) throws IndexOutOfBoundsException, IllegalStateException {
        return makeMotion(TO_RENT, mover, tail, state.tailMotionFault(mover, tail));
    }

    public int moveToReturn(int mover, int tail) throws IndexOutOfBoundsException, IllegalStateException {
        return makeMotion(TO_RETURN, mover, tail, state.tailMotionFault(mover, tail));
    }

    public int moveToGround(int mover, int target) throws IndexOutOfBoundsException, IllegalStateException {
        return makeMotion(TO_GROUND, mover, target, state.groundMotionFault(mover, target));
    }

    public int second(int committee, int motion)
            throws IndexOutOfBoundsException, NoSuchElementException, IllegalArgumentException,
                    IllegalStateException {
        int fault = state.secondFault(committee, motion);
        if (fault == 1) {
            throw new IndexOutOfBoundsException("no such committee");
        }
        if (fault == 2) {
            throw new NoSuchElementException("no open motion has this id");
        }
        if (fault == 3) {
            throw new IllegalArgumentException("the mover cannot second");
        }
        if (fault == 4) {
            throw new IllegalStateException("the motion has a seconder");
        }
        history.keep(state);
        return state.setSeconder(committee, motion);
    }

    public int untable(int motion) throws NoSuchElementException, IllegalStateException {
        int fault = state.untableFault(motion);
        if (fault == 1) {
            throw new NoSuchElementException("no open motion has this id");
        }
        if (fault == 2) {
            throw new IllegalStateException("the motion is not tabled");
        }
        history.keep(state);
        return state.takeFromTable(motion);
    }

    public int withdraw(int motion) throws NoSuchElementException {
        if (state.withdrawFault(motion) == 1) {
            throw new NoSuchElementException("no open motion has this id");
        }
        history.keep(state);
        return state.dropMotion(motion);
    }

    public boolean vote(int motion) throws NoSuchElementException, IllegalStateException {
        int fault = state.voteFault(motion);
        if (fault == 1) {
            throw new NoSuchElementException("no open motion has this id");
        }
        if (fault == 2) {
            throw new IllegalStateException("the motion has no seconder or is tabled");
        }
        history.keep(state);
        return state.holdVote(motion);
    }

    public int openMotions() {
        return state.motions.open;
    }

    public int motionAt(int position) throws IndexOutOfBoundsException {
        if (position < 0 || position >= state.motions.open) {
            throw new IndexOutOfBoundsException("no such position");
        }
        return state.motions.ids[position];
    }

    public int moverOf(int motion) throws NoSuchElementException {
        int slot = requireMotion(motion);
        return state.motions.movers[slot];
    }

    public boolean isSeconded(int motion) throws NoSuchElementException {
        int slot = requireMotion(motion);
        return state.motions.seconders[slot] != NONE;
    }

    public int seconderOf(int motion) throws NoSuchElementException, IllegalStateException {
        int slot = requireMotion(motion);
        if (state.motions.seconders[slot] == NONE) {
            throw new IllegalStateException("the motion has no seconder");
        }
        return state.motions.seconders[slot];
    }

    public boolean isTabled(int motion) throws NoSuchElementException {
        int slot = requireMotion(motion);
        return state.motions.tabled[slot];
    }

    public int votesFor(int motion) throws NoSuchElementException {
        int slot = requireMotion(motion);
        return state.sumFor(slot);
    }

    public int votesForByMember(int motion) throws NoSuchElementException {
        int slot = requireMotion(motion);
        return state.sumForByMember(slot);
    }

    public int votesAgainst(int motion) throws NoSuchElementException {
        int slot = requireMotion(motion);
        return state.sumAgainst(slot);
    }

    // ---- gusts and hours

    public int gust(int strength) throws IllegalArgumentException {
        if (state.gustFault(strength) == 1) {
            throw new IllegalArgumentException("a gust has a strength from 0 to 20");
        }
        history.keep(state);
        return state.blowGust(strength);
    }

    public int pass(int hours) throws IllegalArgumentException {
        if (state.passFault(hours) == 1) {
            throw new IllegalArgumentException("1 to 12 hours can pass");
        }
        history.keep(state);
        return state.passHours(hours);
    }

    public int arrearsAfter(int committee, int hours)
            throws IndexOutOfBoundsException, IllegalArgumentException {
        requireForecast(committee, hours);
        spare.copyFrom(state);
        spare.passHours(hours);
        return spare.arrears[committee];
    }

    public int arrearsAfterByRate(int committee, int hours)
            throws IndexOutOfBoundsException, IllegalArgumentException {
        requireForecast(committee, hours);
        return state.arrearsByRate(committee, hours);
    }

    public int hour() {
        return state.hour;
    }

    public int committeeAtRank(int rank) throws NoSuchElementException {
        int committee = state.committeeRanked(rank);
        if (committee == NONE) {
            throw new NoSuchElementException("no such rank");
        }
        return committee;
    }

    // ---- totals

    public int carriedCount() {
        return state.carried;
    }

    public int lostCount() {
        return state.lost;
    }

    public int paidTotal() {
        return state.paid;
    }

    public int chargedTotal() {
        return state.charged;
    }

    // ---- commands

    public int append(char character) throws IllegalArgumentException, IllegalStateException {
        if (character < 32 || character > 126) {
            throw new IllegalArgumentException("the code of the character is not from 32 to 126");
        }
        if (commands.isFull()) {
            throw new IllegalStateException("the command text has 60 characters");
        }
        return commands.addCharacter(character);
    }

    public int run() throws IllegalArgumentException, IllegalStateException {
        boolean isCommandText = commands.readText();
        commands.clearText();
        if (!isCommandText) {
            errorPosition = commands.at;
            throw new IllegalArgumentException("the text is not a command text");
        }
        spare.copyFrom(state);
        for (int command = 0; command < commands.count; command++) {
            int fault = commands.faultOf(command, state);
            if (fault != 0) {
                state.copyFrom(spare);
                failedCommand = command;
                failedException = fault;
                throw new IllegalStateException("a command fails");
            }
            commands.carryOut(command, state);
        }
        history.keep(spare);
        return commands.count;
    }

    public int errorPosition() throws NoSuchElementException {
        if (errorPosition == NONE) {
            throw new NoSuchElementException("no error position was set");
        }
        return errorPosition;
    }

    public int failedCommand() throws NoSuchElementException {
        if (failedCommand == NONE) {
            throw new NoSuchElementException("no command has failed");
        }
        return failedCommand;
    }

    public int failedException() throws NoSuchElementException {
        if (failedException == NONE) {
            throw new NoSuchElementException("no command has failed");
        }
        return failedException;
    }

    // ---- line, statistics, undo, snapshot

    public int describeCommittee(int committee) throws IndexOutOfBoundsException {
        requireCommittee(committee);
        line.setLength(0);
        line.append(committee).append('/').append(state.members[committee]);
        line.append(state.flying[committee] ? '^' : '_');
        if (state.arrears[committee] > 0) {
            line.append('-').append(state.arrears[committee]);
        }
        for (int tail = 0; tail < state.tails; tail++) {
            if (state.renters[tail] == committee) {
                line.append('~').append(tail);
            }
        }
        return line.length();
    }

    public int describeMotion(int motion) throws NoSuchElementException {
        int slot = requireMotion(motion);
        Motions motions = state.motions;
        line.setLength(0);
        line.append('#').append(motion).append(motions.kinds[slot]).append(motions.objects[slot]);
        line.append(':').append(motions.movers[slot]);
        if (motions.seconders[slot] != NONE) {
            line.append('+').append(motions.seconders[slot]);
        }
        if (motions.tabled[slot]) {
            line.append('!');
        }
        return line.length();
    }

    public char lineAt(int index) throws IndexOutOfBoundsException {
        if (index < 0 || index >= line.length()) {
            throw new IndexOutOfBoundsException("no such index");
        }
        return line.charAt(index);
    }

    public double meanArrears() throws ArithmeticException {
        if (state.committees == 0) {
            throw new ArithmeticException("there are no committees");
        }
        return (double) state.sumOfArrears() / (double) state.committees;
    }

    public float rentedShare() throws ArithmeticException {
        if (state.tails == 0) {
            throw new ArithmeticException("there are no tails");
        }
        return (float) state.rentedTails() / (float) state.tails;
    }

    public boolean isConsistent() {
        return state.charged == state.paid + state.sumOfArrears()
                && state.allRentersFly()
                && state.sumsForAgree()
                && forecastsAgree();
    }

    public int undo() throws IllegalStateException {
        if (history.kept == 0) {
            throw new IllegalStateException("there is no change to undo");
        }
        history.takeBack(state);
        return history.kept;
    }

    public int save() {
        snapshot.copyFrom(state);
        hasSnapshot = true;
        return state.motions.open;
    }

    public int restore() throws IllegalStateException {
        if (!hasSnapshot) {
            throw new IllegalStateException("there is no snapshot");
        }
        state.copyFrom(snapshot);
        history.forget();
        return state.motions.open;
    }

    // ---- what several methods of the face share

    private void requireCommittee(int committee) {
        if (!state.hasCommittee(committee)) {
            throw new IndexOutOfBoundsException("no such committee");
        }
    }

    private void requireTail(int tail) {
        if (!state.hasTail(tail)) {
            throw new IndexOutOfBoundsException("no such tail");
        }
    }

    /** Answers the slot of an open motion. */
    private int requireMotion(int motion) {
        int slot = state.motions.slotOf(motion);
        if (slot == NONE) {
            throw new NoSuchElementException("no open motion has this id");
        }
        return slot;
    }

    private void requireForecast(int committee, int hours) {
        requireCommittee(committee);
        if (hours < 0 || hours > MOST_HOURS_FORECAST) {
            throw new IllegalArgumentException("the number of hours is not from 0 to 24");
        }
    }

    private int makeMotion(char kind, int mover, int object, int fault) {
        if (fault == 1) {
            throw new IndexOutOfBoundsException("no such committee or tail");
        }
        if (fault == 2) {
            throw new IllegalStateException("8 motions are open");
        }
        history.keep(state);
        return state.enterMotion(kind, mover, object);
    }

    private boolean forecastsAgree() {
        for (int committee = 0; committee < state.committees; committee++) {
            for (int hours = 0; hours <= HOURS_CHECKED; hours++) {
                if (arrearsAfter(committee, hours) != arrearsAfterByRate(committee, hours)) {
                    return false;
                }
            }
        }
        return true;
    }

    /** The open motions, in the order in which they were made. A slot is a place in that order. */
    private static final class Motions {
        int open = 0;
        int nextId = 0;
        final int[] ids = new int[MOTION_LIMIT];
        final char[] kinds = new char[MOTION_LIMIT];
        final int[] movers = new int[MOTION_LIMIT];
        /** The tail to rent or to return, or the target to ground. */
        final int[] objects = new int[MOTION_LIMIT];
        final int[] seconders = new int[MOTION_LIMIT];
        final boolean[] tabled = new boolean[MOTION_LIMIT];

        int slotOf(int id) {
            for (int slot = 0; slot < open; slot++) {
                if (ids[slot] == id) {
                    return slot;
                }
            }
            return NONE;
        }

        boolean areFull() {
            return open >= MOTION_LIMIT;
        }

        int enter(char kind, int mover, int object) {
            ids[open] = nextId;
            kinds[open] = kind;
            movers[open] = mover;
            objects[open] = object;
            seconders[open] = NONE;
            tabled[open] = false;
            open++;
            nextId++;
            return nextId - 1;
        }

        void close(int slot) {
            open--;
            for (int to = slot; to < open; to++) {
                copySlot(this, to + 1, to);
            }
        }

        int countSeconded() {
            int count = 0;
            for (int slot = 0; slot < open; slot++) {
                if (seconders[slot] != NONE) {
                    count++;
                }
            }
            return count;
        }

        void copyFrom(Motions other) {
            open = other.open;
            nextId = other.nextId;
            for (int slot = 0; slot < open; slot++) {
                copySlot(other, slot, slot);
            }
        }

        private void copySlot(Motions other, int from, int to) {
            ids[to] = other.ids[from];
            kinds[to] = other.kinds[from];
            movers[to] = other.movers[from];
            objects[to] = other.objects[from];
            seconders[to] = other.seconders[from];
            tabled[to] = other.tabled[from];
        }
    }

    /**
     * Everything that changes can change. A fault function is asked before its change is made; the
     * change itself then takes for granted that it answered 0.
     */
    private static final class State {
        private static final int VOTES_FOR = 1;
        private static final int VOTES_AGAINST = -1;
        private static final int ABSTAINS = 0;

        int committees = 0;
        final int[] members = new int[COMMITTEE_LIMIT];
        final int[] arrears = new int[COMMITTEE_LIMIT];
        final boolean[] flying = new boolean[COMMITTEE_LIMIT];
        int tails = 0;
        final int[] lengths = new int[TAIL_LIMIT];
        /** The committee that rents each tail, NONE for a free tail. */
        final int[] renters = new int[TAIL_LIMIT];
        final Motions motions = new Motions();
        int hour = 0;
        int carried = 0;
        int lost = 0;
        int paid = 0;
        int charged = 0;

        void copyFrom(State other) {
            committees = other.committees;
            for (int committee = 0; committee < committees; committee++) {
                members[committee] = other.members[committee];
                arrears[committee] = other.arrears[committee];
                flying[committee] = other.flying[committee];
            }
            tails = other.tails;
            for (int tail = 0; tail < tails; tail++) {
                lengths[tail] = other.lengths[tail];
                renters[tail] = other.renters[tail];
            }
            motions.copyFrom(other.motions);
            hour = other.hour;
            carried = other.carried;
            lost = other.lost;
            paid = other.paid;
            charged = other.charged;
        }

        boolean hasCommittee(int committee) {
            return committee >= 0 && committee < committees;
        }

        boolean hasTail(int tail) {
            return tail >= 0 && tail < tails;
        }

        // -- committees

        int committeeFault(int memberCount) {
            if (memberCount < 1 || memberCount > MOST_MEMBERS) {
                return 1;
            }
            return committees >= COMMITTEE_LIMIT ? 2 : 0;
        }

        int enterCommittee(int memberCount) {
            members[committees] = memberCount;
            arrears[committees] = 0;
            flying[committees] = true;
            committees++;
            return committees - 1;
        }

        int payFault(int committee, int coins) {
            if (!hasCommittee(committee)) {
                return 1;
            }
            if (coins < 1 || coins > MOST_COINS) {
                return 2;
            }
            return coins > arrears[committee] ? 3 : 0;
        }

        int takeCoins(int committee, int coins) {
            arrears[committee] -= coins;
            paid += coins;
            return arrears[committee];
        }

        int launchFault(int committee) {
            if (!hasCommittee(committee)) {
                return 1;
            }
            return flying[committee] || arrears[committee] > 0 ? 2 : 0;
        }

        int letFly(int committee) {
            flying[committee] = true;
            int count = 0;
            for (int other = 0; other < committees; other++) {
                if (flying[other]) {
                    count++;
                }
            }
            return count;
        }

        void groundKite(int committee) {
            flying[committee] = false;
            for (int tail = 0; tail < tails; tail++) {
                if (renters[tail] == committee) {
                    renters[tail] = NONE;
                }
            }
        }

        int committeeRanked(int rank) {
            for (int committee = 0; committee < committees; committee++) {
                if (rankOf(committee) == rank) {
                    return committee;
                }
            }
            return NONE;
        }

        private int rankOf(int committee) {
            int rank = 0;
            for (int other = 0; other < committees; other++) {
                if (isAhead(other, committee)) {
                    rank++;
                }
            }
            return rank;
        }

        private boolean isAhead(int one, int other) {
            if (arrears[one] != arrears[other]) {
                return arrears[one] > arrears[other];
            }
            if (members[one] != members[other]) {
                return members[one] > members[other];
            }
            return one < other;
        }

        int sumOfArrears() {
            int sum = 0;
            for (int committee = 0; committee < committees; committee++) {
                sum += arrears[committee];
            }
            return sum;
        }

        // -- tails

        int tailFault(int length) {
            if (length < 1 || length > GREATEST_LENGTH) {
                return 1;
            }
            return tails >= TAIL_LIMIT ? 2 : 0;
        }

        int enterTail(int length) {
            lengths[tails] = length;
            renters[tails] = NONE;
            tails++;
            return tails - 1;
        }

        int lengthBehind(int committee) {
            int sum = 0;
            for (int tail = 0; tail < tails; tail++) {
                if (renters[tail] == committee) {
                    sum += lengths[tail];
                }
            }
            return sum;
        }

        int tailsBehind(int committee) {
            int count = 0;
            for (int tail = 0; tail < tails; tail++) {
                if (renters[tail] == committee) {
                    count++;
                }
            }
            return count;
        }

        int rentedTails() {
            return tails - tailsBehind(NONE);
        }

        int shortestFree() {
            int best = NONE;
            for (int tail = 0; tail < tails; tail++) {
                if (renters[tail] == NONE && (best == NONE || lengths[tail] < lengths[best])) {
                    best = tail;
                }
            }
            return best;
        }

        boolean allRentersFly() {
            for (int tail = 0; tail < tails; tail++) {
                int renter = renters[tail];
                if (renter != NONE && !(hasCommittee(renter) && flying[renter])) {
                    return false;
                }
            }
            return true;
        }

        // -- motions

        int tailMotionFault(int mover, int tail) {
            if (!hasCommittee(mover) || !hasTail(tail)) {
                return 1;
            }
            return motions.areFull() ? 2 : 0;
        }

        int groundMotionFault(int mover, int target) {
            if (!hasCommittee(mover) || !hasCommittee(target)) {
                return 1;
            }
            return motions.areFull() ? 2 : 0;
        }

        int enterMotion(char kind, int mover, int object) {
            return motions.enter(kind, mover, object);
        }

        int secondFault(int committee, int motion) {
            if (!hasCommittee(committee)) {
                return 1;
            }
            int slot = motions.slotOf(motion);
            if (slot == NONE) {
                return 2;
            }
            if (motions.movers[slot] == committee) {
                return 3;
            }
            return motions.seconders[slot] != NONE ? 4 : 0;
        }

        int setSeconder(int committee, int motion) {
            int slot = motions.slotOf(motion);
            if (slot != NONE) {
                motions.seconders[slot] = committee;
            }
            return motions.countSeconded();
        }

        int untableFault(int motion) {
            int slot = motions.slotOf(motion);
            if (slot == NONE) {
                return 1;
            }
            return motions.tabled[slot] ? 0 : 2;
        }

        int takeFromTable(int motion) {
            int slot = motions.slotOf(motion);
            if (slot == NONE) {
                return 0;
            }
            int mover = motions.movers[slot];
            motions.tabled[slot] = false;
            arrears[mover]++;
            charged++;
            return arrears[mover];
        }

        int withdrawFault(int motion) {
            return motions.slotOf(motion) == NONE ? 1 : 0;
        }

        int dropMotion(int motion) {
            int slot = motions.slotOf(motion);
            if (slot != NONE) {
                motions.close(slot);
            }
            return motions.open;
        }

        int voteFault(int motion) {
            int slot = motions.slotOf(motion);
            if (slot == NONE) {
                return 1;
            }
            return motions.seconders[slot] == NONE || motions.tabled[slot] ? 2 : 0;
        }

        boolean holdVote(int motion) {
            int slot = motions.slotOf(motion);
            if (slot == NONE) {
                return false;
            }
            boolean isCarried = sumFor(slot) > sumAgainst(slot) && isPossible(slot);
            if (isCarried) {
                takeEffect(slot);
                carried++;
            } else {
                lost++;
            }
            motions.close(slot);
            return isCarried;
        }

        private boolean isPossible(int slot) {
            int mover = motions.movers[slot];
            int object = motions.objects[slot];
            switch (motions.kinds[slot]) {
                case TO_RENT:
                    return renters[object] == NONE && flying[mover];
                case TO_RETURN:
                    return renters[object] == mover;
                default:
                    return flying[object];
            }
        }

        private void takeEffect(int slot) {
            int object = motions.objects[slot];
            switch (motions.kinds[slot]) {
                case TO_RENT:
                    renters[object] = motions.movers[slot];
                    break;
                case TO_RETURN:
                    renters[object] = NONE;
                    break;
                default:
                    groundKite(object);
                    break;
            }
        }

        // -- votes

        private int voiceOf(int committee, int slot) {
            int mover = motions.movers[slot];
            if (committee == mover || committee == motions.seconders[slot]) {
                return VOTES_FOR;
            }
            if (!flying[committee]) {
                return ABSTAINS;
            }
            return arrears[committee] <= arrears[mover] ? VOTES_FOR : VOTES_AGAINST;
        }

        private int sumOfVotes(int slot, int voice) {
            int sum = 0;
            for (int committee = 0; committee < committees; committee++) {
                if (voiceOf(committee, slot) == voice) {
                    sum += members[committee];
                }
            }
            return sum;
        }

        int sumFor(int slot) {
            return sumOfVotes(slot, VOTES_FOR);
        }

        int sumAgainst(int slot) {
            return sumOfVotes(slot, VOTES_AGAINST);
        }

        int sumForByMember(int slot) {
            int sum = 0;
            for (int number = 1; number <= MOST_MEMBERS; number++) {
                for (int committee = 0; committee < committees; committee++) {
                    if (members[committee] >= number && voiceOf(committee, slot) == VOTES_FOR) {
                        sum++;
                    }
                }
            }
            return sum;
        }

        boolean sumsForAgree() {
            for (int slot = 0; slot < motions.open; slot++) {
                if (sumFor(slot) != sumForByMember(slot)) {
                    return false;
                }
            }
            return true;
        }

        // -- gusts and hours

        int gustFault(int strength) {
            return strength < 0 || strength > GREATEST_STRENGTH ? 1 : 0;
        }

        int blowGust(int strength) {
            int count = 0;
            for (int slot = 0; slot < motions.open; slot++) {
                int mover = motions.movers[slot];
                if (!motions.tabled[slot] && flying[mover] && lengthBehind(mover) < strength) {
                    motions.tabled[slot] = true;
                    count++;
                }
            }
            return count;
        }

        int passFault(int hours) {
            return hours < 1 || hours > MOST_HOURS_PASSED ? 1 : 0;
        }

        int passHours(int hours) {
            int grounded = 0;
            for (int passed = 0; passed < hours; passed++) {
                chargeForTails();
                grounded += groundDebtors();
                hour++;
            }
            return grounded;
        }

        private void chargeForTails() {
            for (int committee = 0; committee < committees; committee++) {
                int price = lengthBehind(committee);
                arrears[committee] += price;
                charged += price;
            }
        }

        private int groundDebtors() {
            int count = 0;
            for (int committee = 0; committee < committees; committee++) {
                if (flying[committee] && arrears[committee] > ARREARS_LIMIT) {
                    groundKite(committee);
                    count++;
                }
            }
            return count;
        }

        int arrearsByRate(int committee, int hours) {
            int owed = arrears[committee];
            int rate = lengthBehind(committee);
            if (rate == 0) {
                return owed;
            }
            // The hour that takes the arrears above the limit is the last one that is charged. Arrears
            // above it already (by motions taken from the table) are still charged for one hour.
            int lastHour = owed > ARREARS_LIMIT ? 1 : (ARREARS_LIMIT - owed) / rate + 1;
            return owed + rate * Math.min(hours, lastHour);
        }
    }

    /** The states before the latest changes, in a ring that drops the oldest one. */
    private static final class History {
        private final State[] states = new State[UNDO_LIMIT];
        private int next = 0;
        int kept = 0;

        History() {
            for (int place = 0; place < UNDO_LIMIT; place++) {
                states[place] = new State();
            }
        }

        void keep(State state) {
            State place = states[next];
            if (place != null) {
                place.copyFrom(state);
            }
            next = (next + 1) % UNDO_LIMIT;
            kept = Math.min(kept + 1, UNDO_LIMIT);
        }

        void takeBack(State state) {
            next = (next + UNDO_LIMIT - 1) % UNDO_LIMIT;
            kept--;
            State place = states[next];
            if (place != null) {
                state.copyFrom(place);
            }
        }

        void forget() {
            kept = 0;
        }
    }

    /** The command text, and the commands that were read from it last. */
    private static final class Commands {
        private static final int COMMITTEE = 0;
        private static final int TAIL = 1;
        private static final int PAY = 2;
        private static final int LAUNCH = 3;
        private static final int RENT = 4;
        private static final int RETURN = 5;
        private static final int GROUND = 6;
        private static final int SECOND = 7;
        private static final int UNTABLE = 8;
        private static final int WITHDRAW = 9;
        private static final int VOTE = 10;
        private static final int GUST = 11;
        private static final int PASS = 12;
        private static final int KINDS = 13;

        /** In a form, '9' stands for a digit and '#' for a number; every other sign for itself. */
        private static final char DIGIT = '9';
        private static final char NUMBER = '#';
        private static final int MOST_DIGITS = 3;
        private static final int MOST_PARAMETERS = 2;

        private final StringBuilder text = new StringBuilder();
        private final int[] kinds = new int[TEXT_LIMIT];
        private final int[] parameters = new int[MOST_PARAMETERS * TEXT_LIMIT];
        int count = 0;
        /** Where reading stands; after a text that is no command text, its error position. */
        int at = 0;

        boolean isFull() {
            return text.length() >= TEXT_LIMIT;
        }

        int addCharacter(char character) {
            text.append(character);
            return text.length();
        }

        void clearText() {
            text.setLength(0);
        }

        private static String formOf(int kind) {
            switch (kind) {
                case COMMITTEE:
                    return "committee 9";
                case TAIL:
                    return "tail 9";
                case PAY:
                    return "pay 9 #";
                case LAUNCH:
                    return "launch 9";
                case RENT:
                    return "rent 99";
                case RETURN:
                    return "return 99";
                case GROUND:
                    return "ground 99";
                case SECOND:
                    return "second 9 #";
                case UNTABLE:
                    return "untable #";
                case WITHDRAW:
                    return "withdraw #";
                case VOTE:
                    return "vote #";
                case GUST:
                    return "gust #";
                default:
                    return "pass #";
            }
        }

        /** Reads the commands of the text; answers whether it is a command text. */
        boolean readText() {
            at = 0;
            count = 0;
            while (count < TEXT_LIMIT) {
                if (!readCommand()) {
                    return false;
                }
                count++;
                if (!readSign(';')) {
                    return at == text.length();
                }
            }
            return false;
        }

        /** Reads one command. Where no form goes on, the form that went furthest tells the error. */
        private boolean readCommand() {
            int start = at;
            int furthest = start;
            for (int kind = 0; kind < KINDS; kind++) {
                at = start;
                if (readForm(formOf(kind))) {
                    kinds[count] = kind;
                    return true;
                }
                furthest = Math.max(furthest, at);
            }
            at = furthest;
            return false;
        }

        private boolean readForm(String form) {
            int parameter = MOST_PARAMETERS * count;
            for (int place = 0; place < form.length(); place++) {
                char part = form.charAt(place);
                if (part == DIGIT || part == NUMBER) {
                    if (!readNumber(part == DIGIT ? 1 : MOST_DIGITS, parameter)) {
                        return false;
                    }
                    parameter++;
                } else if (!readSign(part)) {
                    return false;
                }
            }
            return true;
        }

        private boolean readNumber(int mostDigits, int parameter) {
            int number = 0;
            int digits = 0;
            while (digits < mostDigits && isAtDigit()) {
                number = 10 * number + (text.charAt(at) - '0');
                digits++;
                at++;
            }
            parameters[parameter] = number;
            return digits > 0;
        }

        private boolean isAtDigit() {
            return at < text.length() && text.charAt(at) >= '0' && text.charAt(at) <= '9';
        }

        private boolean readSign(char sign) {
            if (at < text.length() && text.charAt(at) == sign) {
                at++;
                return true;
            }
            return false;
        }

        /** Answers the fault of a command in a state, 0 if it can be carried out. */
        int faultOf(int command, State state) {
            int first = parameters[MOST_PARAMETERS * command];
            int last = parameters[MOST_PARAMETERS * command + 1];
            switch (kinds[command]) {
                case COMMITTEE:
                    return state.committeeFault(first);
                case TAIL:
                    return state.tailFault(first);
                case PAY:
                    return state.payFault(first, last);
                case LAUNCH:
                    return state.launchFault(first);
                case RENT:
                case RETURN:
                    return state.tailMotionFault(first, last);
                case GROUND:
                    return state.groundMotionFault(first, last);
                case SECOND:
                    return state.secondFault(first, last);
                case UNTABLE:
                    return state.untableFault(first);
                case WITHDRAW:
                    return state.withdrawFault(first);
                case VOTE:
                    return state.voteFault(first);
                case GUST:
                    return state.gustFault(first);
                default:
                    return state.passFault(first);
            }
        }

        void carryOut(int command, State state) {
            int first = parameters[MOST_PARAMETERS * command];
            int last = parameters[MOST_PARAMETERS * command + 1];
            switch (kinds[command]) {
                case COMMITTEE:
                    state.enterCommittee(first);
                    break;
                case TAIL:
                    state.enterTail(first);
                    break;
                case PAY:
                    state.takeCoins(first, last);
                    break;
                case LAUNCH:
                    state.letFly(first);
                    break;
                case RENT:
                    state.enterMotion(TO_RENT, first, last);
                    break;
                case RETURN:
                    state.enterMotion(TO_RETURN, first, last);
                    break;
                case GROUND:
                    state.enterMotion(TO_GROUND, first, last);
                    break;
                case SECOND:
                    state.setSeconder(first, last);
                    break;
                case UNTABLE:
                    state.takeFromTable(first);
                    break;
                case WITHDRAW:
                    state.dropMotion(first);
                    break;
                case VOTE:
                    state.holdVote(first);
                    break;
                case GUST:
                    state.blowGust(first);
                    break;
                default:
                    state.passHours(first);
                    break;
            }
        }
    }
}
