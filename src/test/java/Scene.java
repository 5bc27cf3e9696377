import java.util.function.Supplier;

/** Ways to bring a rental to where a test begins. */
final class Scene {
    /** One command of each kind, each of which can be carried out on ready(). */
    static final String[] READY_COMMANDS = {
        "committee 1", "tail 1", "pay 0 1", "launch 2", "rent 00", "return 00", "ground 00", "second 1 3",
        "untable 2", "withdraw 3", "vote 4", "gust 20", "pass 12"
    };

    private Scene() {
    }

    /** A rental with committees of these numbers of members, and no tails. */
    static KiteTailRental committees(int... members) {
        KiteTailRental x = new KiteTailRental();
        addCommittees(x, members);
        return x;
    }

    static void addCommittees(KiteTailRental x, int... members) {
        for (int count : members) {
            x.addCommittee(count);
        }
    }

    static void tails(KiteTailRental x, int... lengths) {
        for (int length : lengths) {
            x.addTail(length);
        }
    }

    /** Lets a committee rent a tail by a motion that must be carried. */
    static void rent(KiteTailRental x, int mover, int seconder, int tail) {
        carry(x, x.moveToRent(mover, tail), seconder);
    }

    /** Lets a committee return a tail by a motion that must be carried. */
    static void giveBack(KiteTailRental x, int mover, int seconder, int tail) {
        carry(x, x.moveToReturn(mover, tail), seconder);
    }

    /** Grounds the kite of a target by a motion that must be carried. */
    static void ground(KiteTailRental x, int mover, int seconder, int target) {
        carry(x, x.moveToGround(mover, target), seconder);
    }

    private static void carry(KiteTailRental x, int motion, int seconder) {
        x.second(seconder, motion);
        if (!x.vote(motion)) {
            throw new IllegalStateException("the motion of the scene was lost");
        }
    }

    /** Gives a committee arrears of so many coins, by a motion that is tabled and taken up again. */
    static void owe(KiteTailRental x, int committee, int coins) {
        int motion = x.moveToGround(committee, committee);
        for (int coin = 0; coin < coins; coin++) {
            x.gust(20);
            x.untable(motion);
        }
        x.withdraw(motion);
    }

    /**
     * A rental with more than 8 changes and a snapshot, on which each kind of change can be made:
     * committee 0 owes a coin, committee 2 is grounded, motion 2 is tabled, motion 3 is new, motion 4 can
     * be voted on, and 5 is the next id.
     */
    static KiteTailRental ready() {
        KiteTailRental x = new KiteTailRental();
        makeReady(x);
        return x;
    }

    static void makeReady(KiteTailRental x) {
        addCommittees(x, 4, 4, 1);
        tails(x, 9, 3);
        ground(x, 0, 1, 2);
        owe(x, 0, 1);
        x.moveToRent(1, 0);
        x.save();
        x.gust(1);
        x.moveToRent(0, 1);
        x.moveToRent(1, 0);
        x.second(0, 4);
    }

    static void type(KiteTailRental x, String text) {
        for (int i = 0; i < text.length(); i++) {
            x.append(text.charAt(i));
        }
    }

    static int run(KiteTailRental x, String text) {
        type(x, text);
        return x.run();
    }

    /** The line as a text, read until the first index that is refused. */
    static String line(KiteTailRental x) {
        StringBuilder text = new StringBuilder();
        while (true) {
            try {
                text.append(x.lineAt(text.length()));
            } catch (IndexOutOfBoundsException e) {
                return text.toString();
            }
        }
    }

    static String committeeLine(KiteTailRental x, int committee) {
        int length = x.describeCommittee(committee);
        return length + ":" + line(x);
    }

    static String motionLine(KiteTailRental x, int motion) {
        int length = x.describeMotion(motion);
        return length + ":" + line(x);
    }

    /** All answers about what changes can change. It makes up to 200 calls, and leaves a new line. */
    static String look(KiteTailRental x) {
        StringBuilder seen = new StringBuilder();
        for (int c = 0; c < x.committeeCount(); c++) {
            x.describeCommittee(c);
            seen.append(line(x)).append(' ');
        }
        for (int t = 0; t < x.tailCount(); t++) {
            seen.append(x.length(t)).append(x.isFree(t) ? "free " : "rented ");
        }
        for (int p = 0; p < x.openMotions(); p++) {
            x.describeMotion(x.motionAt(p));
            seen.append(line(x)).append(' ');
        }
        seen.append("hour ").append(x.hour()).append(" carried ").append(x.carriedCount());
        seen.append(" lost ").append(x.lostCount()).append(" paid ").append(x.paidTotal());
        return seen.append(" charged ").append(x.chargedTotal()).toString();
    }

    /**
     * Every answer that tells of the state, of the line, of the error position and of the failure. It
     * makes up to 300 calls, and leaves a new line.
     */
    static String answers(KiteTailRental x) {
        StringBuilder seen = new StringBuilder("line ").append(line(x));
        answer(seen, "error", x::errorPosition);
        answer(seen, "failed", x::failedCommand);
        answer(seen, "failure", x::failedException);
        answer(seen, "shortest", x::shortestFreeTail);
        answer(seen, "mean", x::meanArrears);
        answer(seen, "share", x::rentedShare);
        answer(seen, "consistent", x::isConsistent);
        for (int c = 0; c < x.committeeCount(); c++) {
            seen.append(" tailLength ").append(x.tailLength(c)).append(" tailsOf ").append(x.tailsOf(c));
            seen.append(" rank ").append(x.committeeAtRank(c));
        }
        for (int p = 0; p < x.openMotions(); p++) {
            int motion = x.motionAt(p);
            seen.append(" votes ").append(x.votesFor(motion)).append(x.votesForByMember(motion));
            seen.append(' ').append(x.votesAgainst(motion));
        }
        return seen.append(' ').append(look(x)).toString();
    }

    /** The id that the next motion has, found by making one; -1 where there is nobody to move it. */
    static int nextId(KiteTailRental x) {
        if (x.committeeCount() == 0) {
            return -1;
        }
        if (x.openMotions() == 8) {
            x.withdraw(x.motionAt(0));
        }
        return x.moveToGround(0, 0);
    }

    private static void answer(StringBuilder seen, String name, Supplier<Object> question) {
        seen.append(' ').append(name).append(' ');
        try {
            seen.append(question.get());
        } catch (RuntimeException e) {
            seen.append(e.getClass().getSimpleName());
        }
    }
}
