/** Ways to bring a rental to where a test begins. */
final class Scene {
    private Scene() {
    }

    /** A rental with committees of these numbers of members, and no tails. */
    static KiteTailRental committees(int... members) {
        KiteTailRental x = new KiteTailRental();
        for (int count : members) {
            x.addCommittee(count);
        }
        return x;
    }

    static void tails(KiteTailRental x, int... lengths) {
        for (int length : lengths) {
            x.addTail(length);
        }
    }

    /** Lets a committee rent a tail by a motion that must be carried. */
    static void rent(KiteTailRental x, int mover, int seconder, int tail) {
        carry(x, x.moveToRent(mover, tail), seconder);
    }

    /** Grounds the kite of a target by a motion that must be carried. */
    static void ground(KiteTailRental x, int mover, int seconder, int target) {
        carry(x, x.moveToGround(mover, target), seconder);
    }

    private static void carry(KiteTailRental x, int motion, int seconder) {
        x.second(seconder, motion);
        if (!x.vote(motion)) {
            throw new IllegalStateException("the motion of the scene was lost");
        }
    }

    /** Gives a committee arrears of so many coins, by a motion that is tabled and taken up again. */
    static void owe(KiteTailRental x, int committee, int coins) {
        int motion = x.moveToGround(committee, committee);
        for (int coin = 0; coin < coins; coin++) {
            x.gust(20);
            x.untable(motion);
        }
        x.withdraw(motion);
    }

    static void type(KiteTailRental x, String text) {
        for (int i = 0; i < text.length(); i++) {
            x.append(text.charAt(i));
        }
    }

    static int run(KiteTailRental x, String text) {
        type(x, text);
        return x.run();
    }

    /** The line as a text, read until the first index that is refused. */
    static String line(KiteTailRental x) {
        StringBuilder text = new StringBuilder();
        while (true) {
            try {
                text.append(x.lineAt(text.length()));
            } catch (IndexOutOfBoundsException e) {
                return text.toString();
            }
        }
    }

    static String committeeLine(KiteTailRental x, int committee) {
        int length = x.describeCommittee(committee);
        return length + ":" + line(x);
    }

    static String motionLine(KiteTailRental x, int motion) {
        int length = x.describeMotion(motion);
        return length + ":" + line(x);
    }

    /** All answers about what changes can change. It makes up to 200 calls, and leaves a new line. */
    static String look(KiteTailRental x) {
        StringBuilder seen = new StringBuilder();
        for (int c = 0; c < x.committeeCount(); c++) {
            x.describeCommittee(c);
            seen.append(line(x)).append(' ');
        }
        for (int t = 0; t < x.tailCount(); t++) {
            seen.append(x.length(t)).append(x.isFree(t) ? "free " : "rented ");
        }
        for (int p = 0; p < x.openMotions(); p++) {
            x.describeMotion(x.motionAt(p));
            seen.append(line(x)).append(' ');
        }
        seen.append("hour ").append(x.hour()).append(" carried ").append(x.carriedCount());
        seen.append(" lost ").append(x.lostCount()).append(" paid ").append(x.paidTotal());
        return seen.append(" charged ").append(x.chargedTotal()).toString();
    }
}
