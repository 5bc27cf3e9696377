/**
 * Promises 1 to 56 at the limits: a rental with 6 committees, 8 tails and 8 motions, and places that
 * are used again after undo and restore.
 */
public final class LimitsTest {
    private static final Class<IllegalStateException> STATE = IllegalStateException.class;

    public static void main(String[] args) {
        Check.test("1-23 changes of a full rental", LimitsTest::fullChanges);
        Check.test("5-16, 34 questions to a full rental", LimitsTest::fullQuestions);
        Check.test("24-32 questions to 8 motions", LimitsTest::fullMotions);
        Check.test("53-56 a full rental is saved, undone and restored", LimitsTest::fullHistory);
        Check.test("2, 54 a committee in a place that was used", LimitsTest::committeeAnew);
        Check.test("3, 54 a tail in a place that was used", LimitsTest::tailAnew);
        Check.test("17, 54 a motion in a place that was used", LimitsTest::motionAnew);
        Check.test("2, 3, 17, 56 places that were used before restore", LimitsTest::anewAfterRestore);
        Check.test("54 undo gives back what was written over", LimitsTest::writtenOver);
        Check.test("56 restore gives back what was written over", LimitsTest::restoredOver);
        Check.end();
    }

    /** Committee c rents tail c, of length c + 2; tails 6 and 7, of length 9, are free. */
    private static KiteTailRental full() {
        KiteTailRental x = Scene.committees(1, 2, 3, 4, 5, 6);
        Scene.tails(x, 2, 3, 4, 5, 6, 7, 9, 9);
        for (int number = 0; number < 6; number++) {
            Scene.rent(x, number, (number + 1) % 6, number);
        }
        return x;
    }

    private static KiteTailRental fullOfMotions() {
        KiteTailRental x = full();
        for (int i = 0; i < 8; i++) {
            x.moveToReturn(i % 6, i);
        }
        return x;
    }

    private static void fullChanges() {
        KiteTailRental x = fullOfMotions();
        Check.fails("addCommittee", STATE, () -> x.addCommittee(1));
        Check.fails("addTail", STATE, () -> x.addTail(1));
        Check.fails("moveToGround", STATE, () -> x.moveToGround(0, 0));
        Check.same("second(0, 13)", x.second(0, 13), 1);
        Check.same("gust(6)", x.gust(6), 6);
        Check.same("untable(13)", x.untable(13), 1);
        Check.no("vote(13) on a free tail", x.vote(13));
        Check.same("moveToGround", x.moveToGround(0, 5), 14);
        Check.same("second(5, 14)", x.second(5, 14), 1);
        Check.yes("vote(14)", x.vote(14));
        Check.no("isFlying(5)", x.isFlying(5));
        Check.same("launch(5)", x.launch(5), 6);
        Check.same("pass(5) at rates 2 to 6", x.pass(5), 0);
        Check.same("arrears(4)", x.arrears(4), 30);
        Check.same("pay(4, 30)", x.pay(4, 30), 0);
        Check.yes("isConsistent()", x.isConsistent());
    }

    private static void fullQuestions() {
        KiteTailRental x = full();
        Check.same("shortestFreeTail()", x.shortestFreeTail(), 6);
        Check.same("rentedShare()", x.rentedShare(), 0.75f);
        Check.same("pass(12) at rates 2 to 7", x.pass(12), 5);
        int[] arrears = {24, 33, 32, 35, 36, 35};
        int[] ranked = {4, 5, 3, 1, 2, 0};
        for (int number = 0; number < 6; number++) {
            Check.same("arrears(" + number + ")", x.arrears(number), arrears[number]);
            Check.same("committeeAtRank(" + number + ")", x.committeeAtRank(number), ranked[number]);
            Check.same("arrearsAfter(" + number + ", 0)", x.arrearsAfter(number, 0), arrears[number]);
        }
        Check.same("meanArrears()", x.meanArrears(), 195.0 / 6.0);
        Check.same("chargedTotal()", x.chargedTotal(), 195);
        Check.same("rentedShare() of the one that flies", x.rentedShare(), 0.125f);
        Check.same("shortestFreeTail() of the grounded ones", x.shortestFreeTail(), 1);
        Check.yes("isConsistent()", x.isConsistent());
        for (int tail = 7; tail > 0; tail--) {
            Scene.rent(x, 0, 1, tail);
        }
        Check.same("tailsOf(0)", x.tailsOf(0), 8);
        Check.same("tailLength(0)", x.tailLength(0), 45);
        Check.same("rentedShare() of all", x.rentedShare(), 1f);
        Check.fails("shortestFreeTail() of none", java.util.NoSuchElementException.class,
                () -> x.shortestFreeTail());
    }

    private static void fullMotions() {
        KiteTailRental x = fullOfMotions();
        for (int position = 0; position < 8; position++) {
            int motion = x.motionAt(position);
            Check.same("motionAt(" + position + ")", motion, 6 + position);
            Check.same("moverOf(" + motion + ")", x.moverOf(motion), position % 6);
            Check.same("votesFor(" + motion + ")", x.votesFor(motion), 21);
            Check.same("votesForByMember(" + motion + ")", x.votesForByMember(motion), 21);
            Check.same("votesAgainst(" + motion + ")", x.votesAgainst(motion), 0);
        }
        Check.yes("isConsistent()", x.isConsistent());
        Check.same("withdraw of the first", x.withdraw(6), 7);
        Check.same("withdraw of the last", x.withdraw(13), 6);
        Check.same("the last one left", Scene.motionLine(x, 12), "7:#12t6:0");
    }

    /** Two objects, as the looks at one would be more than the 512 calls that it is used for. */
    private static void fullHistory() {
        KiteTailRental x = fullOfMotions();
        String before = Scene.look(x);
        x.pass(12);
        x.withdraw(13);
        x.undo();
        x.undo();
        Check.same("everything after undo", Scene.look(x), before);
        KiteTailRental y = fullOfMotions();
        Check.same("save()", y.save(), 8);
        y.pass(12);
        y.withdraw(13);
        Check.same("restore()", y.restore(), 8);
        Check.same("everything after restore", Scene.look(y), before);
    }

    private static void committeeAnew() {
        KiteTailRental x = new KiteTailRental();
        x.addCommittee(5);
        x.moveToGround(0, 0);
        x.gust(1);
        x.untable(0);
        for (int i = 0; i < 4; i++) {
            x.undo();
        }
        x.addCommittee(7);
        Check.same("the new committee", Scene.committeeLine(x, 0), "4:0/7^");
        KiteTailRental y = Scene.committees(9);
        y.addCommittee(1);
        Scene.ground(y, 0, 1, 1);
        for (int i = 0; i < 4; i++) {
            y.undo();
        }
        y.addCommittee(2);
        Check.same("the new committee", Scene.committeeLine(y, 1), "4:1/2^");
    }

    private static void tailAnew() {
        KiteTailRental x = Scene.committees(5, 5);
        x.addTail(3);
        Scene.rent(x, 0, 1, 0);
        for (int i = 0; i < 4; i++) {
            x.undo();
        }
        Check.same("tailLength(0) after undo", x.tailLength(0), 0);
        x.addTail(8);
        Check.same("length(0)", x.length(0), 8);
        Check.yes("isFree(0)", x.isFree(0));
        Check.same("tailLength(0)", x.tailLength(0), 0);
    }

    private static void motionAnew() {
        KiteTailRental x = Scene.committees(5, 5);
        x.moveToGround(0, 1);
        x.second(1, 0);
        x.gust(1);
        x.withdraw(0);
        x.moveToGround(1, 0);
        Check.same("the new motion", Scene.motionLine(x, 1), "6:#1g0:1");
    }

    private static void anewAfterRestore() {
        KiteTailRental x = new KiteTailRental();
        x.save();
        x.addCommittee(5);
        x.addCommittee(5);
        Scene.tails(x, 3);
        Scene.rent(x, 0, 1, 0);
        Scene.owe(x, 0, 3);
        Scene.ground(x, 0, 1, 1);
        x.moveToGround(0, 1);
        x.second(1, x.motionAt(0));
        x.gust(20);
        x.restore();
        x.addCommittee(2);
        x.addCommittee(1);
        x.addTail(4);
        x.moveToRent(1, 0);
        Check.same("committee 0", Scene.committeeLine(x, 0), "4:0/2^");
        Check.same("committee 1", Scene.committeeLine(x, 1), "4:1/1^");
        Check.same("the motion", Scene.motionLine(x, 0), "6:#0r0:1");
        Check.yes("isFree(0)", x.isFree(0));
        Check.same("length(0)", x.length(0), 4);
    }

    private static void writtenOver() {
        KiteTailRental x = Scene.committees(5);
        Scene.tails(x, 3);
        x.moveToRent(0, 0);
        x.withdraw(0);
        x.moveToGround(0, 0);
        Check.same("undo()", x.undo(), 4);
        Check.same("undo()", x.undo(), 3);
        Check.same("the motion", Scene.motionLine(x, 0), "6:#0r0:0");
    }

    private static void restoredOver() {
        KiteTailRental x = Scene.committees(5);
        Scene.tails(x, 3);
        x.save();
        x.undo();
        x.undo();
        x.addCommittee(8);
        x.addTail(9);
        x.restore();
        Check.same("members(0)", x.members(0), 5);
        Check.same("length(0)", x.length(0), 3);
        Check.same("tailCount()", x.tailCount(), 1);
    }
}
