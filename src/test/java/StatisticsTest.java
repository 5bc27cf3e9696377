import java.lang.reflect.Field;

/** Promises 51 to 53: statistics and the check of the invariants. */
public final class StatisticsTest {
    private static final Class<ArithmeticException> ARITHMETIC = ArithmeticException.class;

    public static void main(String[] args) {
        Check.test("51 meanArrears", StatisticsTest::meanArrears);
        Check.test("51 meanArrears refuses", StatisticsTest::meanArrearsRefuses);
        Check.test("52 rentedShare", StatisticsTest::rentedShare);
        Check.test("52 rentedShare refuses", StatisticsTest::rentedShareRefuses);
        Check.test("53 isConsistent in every kind of state", StatisticsTest::isConsistent);
        Check.test("53 isConsistent changes nothing", StatisticsTest::checkChangesNothing);
        Check.test("53 isConsistent sees each broken invariant", StatisticsTest::brokenInvariants);
        Check.end();
    }

    private static void meanArrears() {
        KiteTailRental x = Scene.committees(1);
        Check.same("meanArrears() of 0", x.meanArrears(), 0.0);
        Scene.owe(x, 0, 1);
        Check.same("meanArrears() of 1", x.meanArrears(), 1.0);
        x.addCommittee(2);
        Check.same("meanArrears() of 1 and 0", x.meanArrears(), 0.5);
        x.addCommittee(3);
        Check.same("meanArrears() of 1, 0 and 0", x.meanArrears(), 1.0 / 3.0);
        Scene.owe(x, 2, 7);
        Scene.owe(x, 1, 2);
        Check.same("meanArrears() of 1, 2 and 7", x.meanArrears(), 10.0 / 3.0);
        Scene.ground(x, 2, 1, 2);
        Check.same("meanArrears() with a grounded one", x.meanArrears(), 10.0 / 3.0);
    }

    private static void meanArrearsRefuses() {
        KiteTailRental x = new KiteTailRental();
        Check.fails("meanArrears()", ARITHMETIC, () -> x.meanArrears());
        x.addTail(1);
        Check.fails("meanArrears() with a tail", ARITHMETIC, () -> x.meanArrears());
    }

    private static void rentedShare() {
        KiteTailRental x = Scene.committees(1, 1);
        Scene.tails(x, 9, 1, 1);
        Check.same("rentedShare() of 3 free ones", x.rentedShare(), 0f);
        Scene.rent(x, 0, 1, 0);
        Check.same("rentedShare() of 1 in 3", x.rentedShare(), 1f / 3f);
        Scene.rent(x, 1, 0, 2);
        Check.same("rentedShare() of 2 in 3", x.rentedShare(), 2f / 3f);
        Scene.rent(x, 0, 1, 1);
        Check.same("rentedShare() of 3 in 3", x.rentedShare(), 1f);
        Scene.tails(x, 1, 1, 1, 1);
        Check.same("rentedShare() of 3 in 7", x.rentedShare(), 3f / 7f);
        Scene.ground(x, 0, 1, 0);
        Check.same("rentedShare() of 1 in 7", x.rentedShare(), 1f / 7f);
    }

    private static void rentedShareRefuses() {
        KiteTailRental x = new KiteTailRental();
        Check.fails("rentedShare()", ARITHMETIC, () -> x.rentedShare());
        x.addCommittee(1);
        Check.fails("rentedShare() with a committee", ARITHMETIC, () -> x.rentedShare());
    }

    private static KiteTailRental busy() {
        KiteTailRental x = Scene.committees(4, 9, 1);
        Scene.tails(x, 9, 1, 5);
        Scene.rent(x, 0, 1, 0);
        Scene.rent(x, 1, 0, 2);
        x.pass(2);
        x.moveToReturn(0, 0);
        x.moveToGround(2, 1);
        x.moveToRent(1, 1);
        x.second(1, 3);
        x.gust(6);
        x.untable(3);
        return x;
    }

    private static void isConsistent() {
        KiteTailRental x = busy();
        Check.yes("isConsistent() with tails and motions", x.isConsistent());
        x.pay(0, 5);
        Check.yes("isConsistent() after paying", x.isConsistent());
        x.pass(3);
        Check.yes("isConsistent() after a grounding", x.isConsistent());
        x.undo();
        Check.yes("isConsistent() after undo", x.isConsistent());
        Scene.owe(x, 0, 40);
        Check.yes("isConsistent() above 30", x.isConsistent());
    }

    private static void checkChangesNothing() {
        KiteTailRental x = busy();
        String before = Scene.look(x);
        Check.yes("isConsistent()", x.isConsistent());
        Check.same("everything after isConsistent()", Scene.look(x), before);
        Check.same("undo() counts no check", x.undo(), 7);
    }

    /**
     * No run of calls breaks an invariant, so this test reaches into the object. It knows how the
     * state is held; where the state is held otherwise, it has nothing to say.
     */
    private static void brokenInvariants() {
        if (!isHeldAsKnown()) {
            System.out.println("the state is held otherwise: broken invariants are not tried");
            return;
        }
        KiteTailRental charged = busy();
        set(charged, "charged", 1000);
        Check.no("isConsistent() with wrong charges", charged.isConsistent());

        for (int tail = 0; tail < 8; tail++) {
            KiteTailRental grounded = Scene.committees(1, 1);
            Scene.tails(grounded, 9, 9, 9, 9, 9, 9, 9, 9);
            Scene.rent(grounded, 0, 1, tail);
            row(grounded, "flying", boolean[].class)[0] = false;
            // Without a length, the forecasts agree still.
            row(grounded, "lengths", int[].class)[tail] = 0;
            Check.no("isConsistent() with a tail behind a grounded kite", grounded.isConsistent());
        }

        for (int motions = 1; motions <= 8; motions++) {
            KiteTailRental votes = Scene.committees(1, 9);
            Scene.owe(votes, 1, 1);
            for (int motion = 1; motion < motions; motion++) {
                votes.moveToGround(0, 1);
            }
            votes.moveToGround(1, 1);
            row(votes, "members", int[].class)[1] = 10;
            Check.no("isConsistent() with votes that differ", votes.isConsistent());
        }

        KiteTailRental rate = busy();
        row(rate, "lengths", int[].class)[0] = -9;
        Check.yes("the other invariants hold", rate.arrearsAfter(0, 12) != rate.arrearsAfterByRate(0, 12));
        Check.no("isConsistent() with forecasts that differ", rate.isConsistent());
    }

    private static boolean isHeldAsKnown() {
        try {
            Object state = stateOf(new KiteTailRental());
            for (String name : new String[] {"charged", "flying", "arrears", "lengths", "members"}) {
                state.getClass().getDeclaredField(name);
            }
            return true;
        } catch (ReflectiveOperationException e) {
            return false;
        }
    }

    private static Object stateOf(KiteTailRental x) throws ReflectiveOperationException {
        Field field = KiteTailRental.class.getDeclaredField("state");
        field.setAccessible(true);
        return field.get(x);
    }

    private static Field fieldOf(Object state, String name) throws ReflectiveOperationException {
        Field field = state.getClass().getDeclaredField(name);
        field.setAccessible(true);
        return field;
    }

    private static <T> T row(KiteTailRental x, String name, Class<T> type) {
        try {
            Object state = stateOf(x);
            return type.cast(fieldOf(state, name).get(state));
        } catch (ReflectiveOperationException e) {
            throw new IllegalStateException(e);
        }
    }

    private static void set(KiteTailRental x, String name, int value) {
        try {
            Object state = stateOf(x);
            fieldOf(state, name).setInt(state, value);
        } catch (ReflectiveOperationException e) {
            throw new IllegalStateException(e);
        }
    }
}
