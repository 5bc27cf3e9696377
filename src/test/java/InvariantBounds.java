import java.lang.reflect.Field;

/**
 * The sentence about the invariants: promise 53. No run of calls breaks one of them, so some of the
 * tests reach into the object. They know how the state is held; where it is held otherwise, they have
 * nothing to say.
 */
final class InvariantBounds {
    private static final String SENTENCE = "Checks the invariants: the charged coins are the paid ones and the"
            + " arrears of all committees; rented tails are behind flying kites; votesFor() equals"
            + " votesForByMember() for all open motions; and arrearsAfter() equals arrearsAfterByRate() for all"
            + " committees and 0 to 12 hours.";

    private InvariantBounds() {
    }

    static void tests() {
        holding();
        if (isHeldAsKnown()) {
            chargedCoins();
            rentedTails();
            votes();
            forecasts();
        } else {
            System.out.println("the state is held otherwise: broken invariants are not tried");
        }
    }

    private static void holding() {
        Check.sentence(53, SENTENCE, "nothing there yet", () -> {
            Check.yes("isConsistent()", new KiteTailRental().isConsistent());
        });
        Check.sentence(53, SENTENCE, "all places taken", () -> {
            KiteTailRental x = new KiteTailRental();
            Refused.full(x);
            Check.yes("isConsistent()", x.isConsistent());
        });
        Check.sentence(53, SENTENCE, "arrears of 29 to 32, at each length of tails", () -> {
            for (int coins = 29; coins <= 32; coins++) {
                for (int length = 1; length <= 9; length++) {
                    KiteTailRental x = renting(coins, length);
                    Check.yes("isConsistent()", x.isConsistent());
                    x.pass(1);
                    Check.yes("isConsistent() an hour later", x.isConsistent());
                    x.pay(0, 9);
                    Check.yes("isConsistent() when some is paid", x.isConsistent());
                }
            }
        });
    }

    /** Committee 0 owes so many coins and rents tail 0, of such a length. */
    private static KiteTailRental renting(int coins, int length) {
        KiteTailRental x = Scene.committees(1, 1);
        Scene.tails(x, length);
        Scene.owe(x, 0, coins);
        Scene.rent(x, 0, 1, 0);
        return x;
    }

    private static void chargedCoins() {
        Check.sentence(53, SENTENCE, "broken by a coin charged too much or too little", () -> {
            for (int charged = 4; charged <= 6; charged++) {
                KiteTailRental x = Scene.committees(1, 1, 1, 1, 1, 1);
                Scene.owe(x, 0, 2);
                Scene.owe(x, 5, 3);
                x.pay(0, 1);
                set(x, "charged", charged);
                Check.yes("isConsistent() with " + charged + " of 5", x.isConsistent() == (charged == 5));
            }
        });
    }

    private static void rentedTails() {
        Check.sentence(53, SENTENCE, "broken by a tail behind a grounded kite, each of eight", () -> {
            for (int tail = 0; tail < 8; tail++) {
                KiteTailRental x = Scene.committees(1, 1);
                Scene.tails(x, 9, 9, 9, 9, 9, 9, 9, 9);
                Scene.rent(x, 0, 1, tail);
                row(x, "flying", boolean[].class)[0] = false;
                // Without a length, the forecasts agree still.
                row(x, "lengths", int[].class)[tail] = 0;
                Check.no("isConsistent() with tail " + tail, x.isConsistent());
            }
        });
    }

    private static void votes() {
        Check.sentence(53, SENTENCE, "broken by votes that differ, on each of eight motions", () -> {
            for (int motions = 1; motions <= 8; motions++) {
                KiteTailRental x = Scene.committees(1, 9);
                Scene.owe(x, 1, 1);
                for (int motion = 1; motion < motions; motion++) {
                    x.moveToGround(0, 1);
                }
                x.moveToGround(1, 1);
                // The 10th member is not counted by votesForByMember(). Committee 1 votes for its own motion
                // alone, the last one.
                row(x, "members", int[].class)[1] = 10;
                Check.no("isConsistent() with " + motions + " motions", x.isConsistent());
            }
        });
    }

    private static void forecasts() {
        Check.sentence(53, SENTENCE, "broken by forecasts that differ, of each committee", () -> {
            for (int committee = 0; committee < 6; committee++) {
                KiteTailRental x = Scene.committees(1, 1, 1, 1, 1, 1);
                Scene.tails(x, 9);
                Scene.rent(x, committee, (committee + 1) % 6, 0);
                row(x, "lengths", int[].class)[0] = -9;
                Check.no("the forecasts agree",
                        x.arrearsAfter(committee, 12) == x.arrearsAfterByRate(committee, 12));
                Check.no("isConsistent() with committee " + committee, x.isConsistent());
            }
        });
    }

    private static boolean isHeldAsKnown() {
        try {
            Object state = stateOf(new KiteTailRental());
            return state != null && fieldOf(state, "charged").getType() == int.class
                    && fieldOf(state, "flying").getType() == boolean[].class
                    && fieldOf(state, "lengths").getType() == int[].class
                    && fieldOf(state, "members").getType() == int[].class;
        } catch (ReflectiveOperationException e) {
            return false;
        }
    }

    private static Object stateOf(KiteTailRental x) throws ReflectiveOperationException {
        Field field = KiteTailRental.class.getDeclaredField("state");
        field.setAccessible(true);
        return field.get(x);
    }

    private static Field fieldOf(Object state, String name) throws ReflectiveOperationException {
        Field field = state.getClass().getDeclaredField(name);
        field.setAccessible(true);
        return field;
    }

    private static <T> T row(KiteTailRental x, String name, Class<T> type) {
        try {
            Object state = stateOf(x);
            return type.cast(fieldOf(state, name).get(state));
        } catch (ReflectiveOperationException e) {
            throw new IllegalStateException(e);
        }
    }

    private static void set(KiteTailRental x, String name, int value) {
        try {
            Object state = stateOf(x);
            fieldOf(state, name).setInt(state, value);
        } catch (ReflectiveOperationException e) {
            throw new IllegalStateException(e);
        }
    }
}
