import java.util.NoSuchElementException;

/** Promises 23, 30 to 32, 39 and 40: votes and what they do. */
public final class VoteTest {
    private static final Class<IllegalStateException> STATE = IllegalStateException.class;
    private static final Class<NoSuchElementException> NONE = NoSuchElementException.class;

    private static final int[] NEVER = {-1, 99, Integer.MAX_VALUE, Integer.MIN_VALUE};

    public static void main(String[] args) {
        Check.test("23 vote refuses", VoteTest::voteRefuses);
        Check.test("23 vote closes the motion", VoteTest::voteCloses);
        Check.test("23 a motion to rent", VoteTest::rent);
        Check.test("23 a motion to rent that is not possible", VoteTest::rentImpossible);
        Check.test("23 a motion to return", VoteTest::giveBack);
        Check.test("23 a motion to return that is not possible", VoteTest::giveBackImpossible);
        Check.test("23 a motion to ground", VoteTest::ground);
        Check.test("23 a motion to ground that is not possible", VoteTest::groundImpossible);
        Check.test("23 more votes for than against are needed", VoteTest::majority);
        Check.test("30-32 mover and seconder vote for it, flying or not", VoteTest::moverAndSeconder);
        Check.test("30-32 others vote by their arrears", VoteTest::byArrears);
        Check.test("30-32 the target votes by its arrears, too", VoteTest::target);
        Check.test("30-32 grounded committees abstain", VoteTest::abstaining);
        Check.test("30-32 no seconder and a tabled motion do not matter", VoteTest::anyTime);
        Check.test("30-32 refuse", VoteTest::sumsRefuse);
        Check.test("31 every number of members counts", VoteTest::byMember);
        Check.test("39-40 carriedCount and lostCount", VoteTest::counts);
        Check.end();
    }

    private static void checkSums(String when, KiteTailRental x, int motion, int pro, int contra) {
        Check.same("votesFor " + when, x.votesFor(motion), pro);
        Check.same("votesForByMember " + when, x.votesForByMember(motion), pro);
        Check.same("votesAgainst " + when, x.votesAgainst(motion), contra);
    }

    private static void voteRefuses() {
        KiteTailRental x = Scene.committees(4, 4);
        Scene.tails(x, 5);
        Check.fails("vote(0) without motions", NONE, () -> x.vote(0));
        x.moveToRent(0, 0);
        for (int wrong : NEVER) {
            Check.fails("vote(" + wrong + ")", NONE, () -> x.vote(wrong));
        }
        Check.fails("vote(1), the next id", NONE, () -> x.vote(1));
        Check.fails("vote(0) without a seconder", STATE, () -> x.vote(0));
        x.gust(1);
        Check.fails("vote(0) tabled, without a seconder", STATE, () -> x.vote(0));
        x.second(1, 0);
        Check.fails("vote(0) tabled", STATE, () -> x.vote(0));
        Check.same("openMotions() after refusals", x.openMotions(), 1);
        Check.same("lostCount() after refusals", x.lostCount(), 0);
        Check.same("carriedCount() after refusals", x.carriedCount(), 0);
        x.untable(0);
        Check.yes("vote(0)", x.vote(0));
        Check.fails("vote(0) again", NONE, () -> x.vote(0));
    }

    private static void voteCloses() {
        KiteTailRental x = Scene.committees(4, 4);
        Scene.tails(x, 5);
        for (int i = 0; i < 3; i++) {
            x.moveToRent(0, 0);
        }
        x.second(1, 1);
        Check.yes("vote(1)", x.vote(1));
        Check.same("openMotions() after a carried one", x.openMotions(), 2);
        Check.same("motionAt(0)", x.motionAt(0), 0);
        Check.same("motionAt(1)", x.motionAt(1), 2);
        x.second(1, 0);
        Check.no("vote(0)", x.vote(0));
        Check.same("openMotions() after a lost one", x.openMotions(), 1);
        Check.same("motionAt(0)", x.motionAt(0), 2);
        Check.fails("moverOf(1), voted on", NONE, () -> x.moverOf(1));
    }

    private static void rent() {
        KiteTailRental x = Scene.committees(4, 4);
        Scene.tails(x, 5, 3);
        x.moveToRent(1, 0);
        x.second(0, 0);
        Check.yes("vote(0)", x.vote(0));
        Check.same("renterOf(0)", x.renterOf(0), 1);
        Check.yes("isFree(1)", x.isFree(1));
        Check.same("arrears(1), nothing is paid at once", x.arrears(1), 0);
    }

    private static void rentImpossible() {
        KiteTailRental x = Scene.committees(4, 4);
        Scene.tails(x, 5, 3);
        Scene.rent(x, 1, 0, 0);
        int other = x.moveToRent(0, 0);
        int own = x.moveToRent(1, 0);
        x.second(1, other);
        x.second(0, own);
        Check.no("vote on a tail that another rents", x.vote(other));
        Check.no("vote on a tail that it rents itself", x.vote(own));
        Check.same("renterOf(0) still", x.renterOf(0), 1);
        Scene.ground(x, 1, 0, 0);
        int grounded = x.moveToRent(0, 1);
        x.second(1, grounded);
        checkSums("of the grounded mover", x, grounded, 8, 0);
        Check.no("vote on a grounded mover", x.vote(grounded));
        Check.yes("isFree(1) still", x.isFree(1));
        Check.same("lostCount()", x.lostCount(), 3);
    }

    private static void giveBack() {
        KiteTailRental x = Scene.committees(4, 4);
        Scene.tails(x, 5, 3);
        Scene.rent(x, 1, 0, 0);
        Scene.rent(x, 1, 0, 1);
        int motion = x.moveToReturn(1, 0);
        x.second(0, motion);
        Check.yes("vote", x.vote(motion));
        Check.yes("isFree(0)", x.isFree(0));
        Check.same("renterOf(1) still", x.renterOf(1), 1);
        Check.same("tailLength(1)", x.tailLength(1), 3);
    }

    private static void giveBackImpossible() {
        KiteTailRental x = Scene.committees(4, 4);
        Scene.tails(x, 5, 3);
        Scene.rent(x, 1, 0, 0);
        int others = x.moveToReturn(0, 0);
        int free = x.moveToReturn(0, 1);
        int twice = x.moveToReturn(1, 0);
        int again = x.moveToReturn(1, 0);
        x.second(1, others);
        x.second(1, free);
        x.second(0, twice);
        x.second(0, again);
        Check.no("vote on another's tail", x.vote(others));
        Check.same("renterOf(0) still", x.renterOf(0), 1);
        Check.no("vote on a free tail", x.vote(free));
        Check.yes("isFree(1) still", x.isFree(1));
        Check.yes("vote on the own tail", x.vote(twice));
        Check.no("vote on the own tail again", x.vote(again));
    }

    private static void ground() {
        KiteTailRental x = Scene.committees(4, 4, 1);
        Scene.tails(x, 5, 3, 1);
        Scene.rent(x, 1, 0, 0);
        Scene.rent(x, 0, 1, 1);
        Scene.rent(x, 1, 0, 2);
        int motion = x.moveToGround(0, 1);
        x.second(1, motion);
        Check.yes("vote", x.vote(motion));
        Check.no("isFlying(1)", x.isFlying(1));
        Check.yes("isFlying(0)", x.isFlying(0));
        Check.yes("isFlying(2)", x.isFlying(2));
        Check.yes("isFree(0)", x.isFree(0));
        Check.same("renterOf(1) still", x.renterOf(1), 0);
        Check.yes("isFree(2)", x.isFree(2));
        int self = x.moveToGround(0, 0);
        x.second(2, self);
        Check.yes("vote on the mover itself", x.vote(self));
        Check.no("isFlying(0)", x.isFlying(0));
        Check.yes("isFree(1)", x.isFree(1));
    }

    private static void groundImpossible() {
        KiteTailRental x = Scene.committees(4, 4, 1);
        Scene.ground(x, 0, 2, 1);
        int motion = x.moveToGround(0, 1);
        x.second(2, motion);
        checkSums("on a grounded target", x, motion, 5, 0);
        Check.no("vote on a grounded target", x.vote(motion));
        Check.same("lostCount()", x.lostCount(), 1);
        Check.no("isFlying(1)", x.isFlying(1));
    }

    /** Committee 0 has arrears of 4, the others none; the mover is committee 1. */
    private static KiteTailRental debtorAgainst(int debtor, int mover, int seconder) {
        KiteTailRental x = Scene.committees(debtor, mover, seconder);
        Scene.tails(x, 4, 1);
        Scene.rent(x, 0, 1, 0);
        x.pass(1);
        return x;
    }

    private static void majority() {
        int[][] cases = {{4, 2, 1}, {3, 2, 1}, {2, 2, 1}, {9, 9, 1}, {9, 8, 1}, {9, 7, 1}};
        for (int[] c : cases) {
            KiteTailRental x = debtorAgainst(c[0], c[1], c[2]);
            int motion = x.moveToRent(1, 1);
            x.second(2, motion);
            checkSums("", x, motion, c[1] + c[2], c[0]);
            boolean due = c[1] + c[2] > c[0];
            Check.yes("vote " + c[0] + " against " + (c[1] + c[2]), x.vote(motion) == due);
            Check.yes("isFree(1)", x.isFree(1) != due);
            Check.same("carriedCount()", x.carriedCount(), due ? 2 : 1);
            Check.same("lostCount()", x.lostCount(), due ? 0 : 1);
        }
    }

    private static void moverAndSeconder() {
        KiteTailRental x = Scene.committees(4, 3, 8);
        Scene.tails(x, 9);
        Scene.rent(x, 1, 0, 0);
        x.pass(2);
        int motion = x.moveToGround(2, 1);
        checkSums("where committee 1 owes more", x, motion, 12, 3);
        x.second(1, motion);
        checkSums("where it has seconded", x, motion, 15, 0);
        x.pass(2);
        Check.no("isFlying(1)", x.isFlying(1));
        checkSums("where it is grounded and has seconded", x, motion, 15, 0);
        int own = x.moveToRent(1, 0);
        checkSums("of a grounded mover", x, own, 15, 0);
        Scene.ground(x, 0, 2, 0);
        checkSums("of a grounded mover, without committee 0", x, own, 11, 0);
        x.second(0, own);
        checkSums("of a grounded mover and a grounded seconder", x, own, 15, 0);
    }

    private static void byArrears() {
        KiteTailRental x = Scene.committees(1, 2, 4, 8);
        Scene.owe(x, 0, 2);
        Scene.owe(x, 1, 1);
        Scene.owe(x, 2, 2);
        Scene.owe(x, 3, 3);
        int motion = x.moveToGround(0, 1);
        checkSums("less, the same and more", x, motion, 7, 8);
        x.pay(3, 1);
        checkSums("when committee 3 owes the same", x, motion, 15, 0);
        x.pay(0, 1);
        checkSums("when the mover owes less", x, motion, 3, 12);
        x.pay(0, 1);
        checkSums("when the mover owes nothing", x, motion, 1, 14);
        x.second(3, motion);
        checkSums("when committee 3 seconds", x, motion, 9, 6);
    }

    private static void target() {
        KiteTailRental x = Scene.committees(3, 9, 1);
        int motion = x.moveToGround(0, 1);
        x.second(2, motion);
        checkSums("when the target owes nothing", x, motion, 13, 0);
        Scene.owe(x, 1, 1);
        x.untable(motion);
        checkSums("when the target owes as much as the mover", x, motion, 13, 0);
        x.pay(0, 1);
        checkSums("when the target owes more", x, motion, 4, 9);
        Check.no("vote", x.vote(motion));
        Check.yes("isFlying(1)", x.isFlying(1));
    }

    private static void abstaining() {
        KiteTailRental x = Scene.committees(1, 2, 4, 8);
        Scene.owe(x, 3, 1);
        int motion = x.moveToGround(0, 1);
        checkSums("when all fly", x, motion, 7, 8);
        Scene.ground(x, 3, 0, 3);
        checkSums("when the debtor is grounded", x, motion, 7, 0);
        Scene.ground(x, 0, 1, 2);
        checkSums("when committee 2 is grounded too", x, motion, 3, 0);
        Scene.ground(x, 0, 1, 1);
        checkSums("when the mover is left", x, motion, 1, 0);
        Scene.ground(x, 0, 1, 0);
        checkSums("when nobody flies", x, motion, 1, 0);
    }

    private static void anyTime() {
        KiteTailRental x = Scene.committees(1, 2, 4);
        int motion = x.moveToGround(0, 1);
        checkSums("without a seconder", x, motion, 7, 0);
        x.gust(1);
        checkSums("when tabled", x, motion, 7, 0);
        x.second(1, motion);
        checkSums("when tabled and seconded", x, motion, 7, 0);
        x.untable(motion);
        checkSums("when taken up", x, motion, 7, 0);
        x.addCommittee(9);
        checkSums("with a new committee", x, motion, 16, 0);
    }

    private static void sumsRefuse() {
        KiteTailRental x = Scene.committees(1, 2);
        x.moveToGround(0, 1);
        x.moveToGround(0, 1);
        x.withdraw(0);
        for (int wrong : new int[] {0, 2, -1, Integer.MAX_VALUE, Integer.MIN_VALUE}) {
            Check.fails("votesFor(" + wrong + ")", NONE, () -> x.votesFor(wrong));
            Check.fails("votesForByMember(" + wrong + ")", NONE, () -> x.votesForByMember(wrong));
            Check.fails("votesAgainst(" + wrong + ")", NONE, () -> x.votesAgainst(wrong));
        }
    }

    private static void byMember() {
        for (int size = 1; size <= 9; size++) {
            KiteTailRental x = Scene.committees(size);
            int motion = x.moveToGround(0, 0);
            checkSums("of a committee of " + size, x, motion, size, 0);
        }
        KiteTailRental all = Scene.committees(9, 9, 9, 9, 9, 9);
        checkSums("of all members", all, all.moveToGround(0, 0), 54, 0);
    }

    private static void counts() {
        KiteTailRental x = Scene.committees(4, 4);
        Scene.tails(x, 5);
        Scene.rent(x, 0, 1, 0);
        Check.same("carriedCount()", x.carriedCount(), 1);
        Check.same("lostCount()", x.lostCount(), 0);
        for (int lost = 1; lost <= 3; lost++) {
            int motion = x.moveToRent(0, 0);
            x.second(1, motion);
            x.vote(motion);
            Check.same("lostCount()", x.lostCount(), lost);
        }
        x.withdraw(x.moveToReturn(0, 0));
        Check.same("lostCount() after a withdrawal", x.lostCount(), 3);
        Check.same("carriedCount() after a withdrawal", x.carriedCount(), 1);
        Scene.ground(x, 0, 1, 0);
        Check.same("carriedCount() of two", x.carriedCount(), 2);
        Check.same("lostCount() of three", x.lostCount(), 3);
    }
}
