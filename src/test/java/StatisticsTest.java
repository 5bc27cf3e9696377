/** Promises 51 to 53: statistics and the check of the invariants. */
public final class StatisticsTest {
    private static final Class<ArithmeticException> ARITHMETIC = ArithmeticException.class;

    public static void main(String[] args) {
        Check.test("51 meanArrears", StatisticsTest::meanArrears);
        Check.test("51 meanArrears refuses", StatisticsTest::meanArrearsRefuses);
        Check.test("52 rentedShare", StatisticsTest::rentedShare);
        Check.test("52 rentedShare refuses", StatisticsTest::rentedShareRefuses);
        Check.test("53 isConsistent in every kind of state", StatisticsTest::isConsistent);
        Check.test("53 isConsistent changes nothing", StatisticsTest::checkChangesNothing);
        Check.end();
    }

    private static void meanArrears() {
        KiteTailRental x = Scene.committees(1);
        Check.same("meanArrears() of 0", x.meanArrears(), 0.0);
        Scene.owe(x, 0, 1);
        Check.same("meanArrears() of 1", x.meanArrears(), 1.0);
        x.addCommittee(2);
        Check.same("meanArrears() of 1 and 0", x.meanArrears(), 0.5);
        x.addCommittee(3);
        Check.same("meanArrears() of 1, 0 and 0", x.meanArrears(), 1.0 / 3.0);
        Scene.owe(x, 2, 7);
        Scene.owe(x, 1, 2);
        Check.same("meanArrears() of 1, 2 and 7", x.meanArrears(), 10.0 / 3.0);
        Scene.ground(x, 2, 1, 2);
        Check.same("meanArrears() with a grounded one", x.meanArrears(), 10.0 / 3.0);
    }

    private static void meanArrearsRefuses() {
        KiteTailRental x = new KiteTailRental();
        Check.fails("meanArrears()", ARITHMETIC, () -> x.meanArrears());
        x.addTail(1);
        Check.fails("meanArrears() with a tail", ARITHMETIC, () -> x.meanArrears());
    }

    private static void rentedShare() {
        KiteTailRental x = Scene.committees(1, 1);
        Scene.tails(x, 9, 1, 1);
        Check.same("rentedShare() of 3 free ones", x.rentedShare(), 0f);
        Scene.rent(x, 0, 1, 0);
        Check.same("rentedShare() of 1 in 3", x.rentedShare(), 1f / 3f);
        Scene.rent(x, 1, 0, 2);
        Check.same("rentedShare() of 2 in 3", x.rentedShare(), 2f / 3f);
        Scene.rent(x, 0, 1, 1);
        Check.same("rentedShare() of 3 in 3", x.rentedShare(), 1f);
        Scene.tails(x, 1, 1, 1, 1);
        Check.same("rentedShare() of 3 in 7", x.rentedShare(), 3f / 7f);
        Scene.ground(x, 0, 1, 0);
        Check.same("rentedShare() of 1 in 7", x.rentedShare(), 1f / 7f);
    }

    private static void rentedShareRefuses() {
        KiteTailRental x = new KiteTailRental();
        Check.fails("rentedShare()", ARITHMETIC, () -> x.rentedShare());
        x.addCommittee(1);
        Check.fails("rentedShare() with a committee", ARITHMETIC, () -> x.rentedShare());
    }

    private static KiteTailRental busy() {
        KiteTailRental x = Scene.committees(4, 9, 1);
        Scene.tails(x, 9, 1, 5);
        Scene.rent(x, 0, 1, 0);
        Scene.rent(x, 1, 0, 2);
        x.pass(2);
        x.moveToReturn(0, 0);
        x.moveToGround(2, 1);
        x.moveToRent(1, 1);
        x.second(1, 3);
        x.gust(6);
        x.untable(3);
        return x;
    }

    private static void isConsistent() {
        KiteTailRental x = busy();
        Check.yes("isConsistent() with tails and motions", x.isConsistent());
        x.pay(0, 5);
        Check.yes("isConsistent() after paying", x.isConsistent());
        x.pass(3);
        Check.yes("isConsistent() after a grounding", x.isConsistent());
        x.undo();
        Check.yes("isConsistent() after undo", x.isConsistent());
        Scene.owe(x, 0, 40);
        Check.yes("isConsistent() above 30", x.isConsistent());
    }

    private static void checkChangesNothing() {
        KiteTailRental x = busy();
        String before = Scene.look(x);
        Check.yes("isConsistent()", x.isConsistent());
        Check.same("everything after isConsistent()", Scene.look(x), before);
        Check.same("undo() counts no check", x.undo(), 7);
    }
}
