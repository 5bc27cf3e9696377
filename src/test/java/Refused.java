import java.util.NoSuchElementException;

/**
 * Refused calls: "A method that throws an exception changes nothing". A rental on which the refused
 * call was made is compared with one on which it was not: in all answers, after each number of undos,
 * after restore, and in the command text.
 */
final class Refused {
    static final Class<IndexOutOfBoundsException> BOUNDS = IndexOutOfBoundsException.class;
    static final Class<IllegalArgumentException> ARGUMENT = IllegalArgumentException.class;
    static final Class<IllegalStateException> STATE = IllegalStateException.class;
    static final Class<NoSuchElementException> NONE = NoSuchElementException.class;
    static final Class<UnsupportedOperationException> UNSUPPORTED = UnsupportedOperationException.class;
    static final Class<ArithmeticException> ARITHMETIC = ArithmeticException.class;

    /** Numbers that stand for nothing in any rental. */
    static final int[] FAR = {-1, 1000, Integer.MIN_VALUE, Integer.MAX_VALUE};

    private static final int UNDOS = 8;

    private Refused() {
    }

    /** What is done to a rental. */
    interface Act {
        void on(KiteTailRental x);
    }

    /** What is done to a rental with a number. */
    interface ActWith {
        void on(KiteTailRental x, int number);
    }

    /** The call throws exactly this exception on the scene, and changes nothing. */
    static void on(Act scene, String what, Class<? extends RuntimeException> due, Act call) {
        onNew(x -> {
            mark(x);
            scene.on(x);
        }, what, due, call);
    }

    /** As on(), without a snapshot, an error position and a failure but for those of the scene. */
    static void onNew(Act scene, String what, Class<? extends RuntimeException> due, Act call) {
        for (int undos = 0; undos <= UNDOS; undos++) {
            KiteTailRental without = prepared(scene);
            KiteTailRental with = prepared(scene);
            Check.fails(what, due, () -> call.on(with));
            for (int i = 0; i < undos; i++) {
                Check.same("undo() after " + what, undoOf(with), undoOf(without));
            }
            Check.same("all answers after " + what + " and " + undos + " undos",
                    Scene.answers(with), Scene.answers(without));
            Check.same("the next id after " + what, Scene.nextId(with), Scene.nextId(without));
        }
        checkRestored(scene, what, due, call);
        checkTyped(scene, what, due, call);
    }

    /** Each of the numbers is refused on the scene. */
    static void each(Act scene, String what, Class<? extends RuntimeException> due, ActWith call,
            int... numbers) {
        for (int number : numbers) {
            on(scene, what + " with " + number, due, x -> call.on(x, number));
        }
    }

    /** A number of a committee is refused that no committee has: among none, two and six of them. */
    static void noSuchCommittee(String what, ActWith call) {
        each(x -> { }, what + " of no committee", BOUNDS, call, 0, 1);
        each(Refused::twoAndTwo, what + " of 2 committees", BOUNDS, call, 2, 3, 6);
        each(Refused::full, what + " of 6 committees", BOUNDS, call, 6, 7, 8);
        each(Refused::full, what + " of 6 committees", BOUNDS, call, FAR);
        each(Refused::undone, what + " of an undone committee", BOUNDS, call, 1);
    }

    /** A number of a tail is refused that no tail has: among none, two and eight of them. */
    static void noSuchTail(String what, ActWith call) {
        each(x -> Scene.addCommittees(x, 4, 4), what + " of no tail", BOUNDS, call, 0, 1);
        each(Refused::twoAndTwo, what + " of 2 tails", BOUNDS, call, 2, 3, 8);
        each(Refused::full, what + " of 8 tails", BOUNDS, call, 8, 9);
        each(Refused::full, what + " of 8 tails", BOUNDS, call, FAR);
        each(Refused::undone, what + " of an undone tail", BOUNDS, call, 1);
    }

    /** An id is refused that no open motion has: never given, withdrawn, voted on or undone. */
    static void noSuchMotion(String what, ActWith call) {
        each(Refused::twoAndTwo, what + " of no motion", NONE, call, 0, -1);
        each(Refused::full, what + " of 8 motions, with the next id", NONE, call, 8);
        each(Refused::full, what + " of 8 motions", NONE, call, FAR);
        each(Refused::closed, what + " of a motion carried, lost, withdrawn, never made", NONE, call,
                0, 1, 2, 4);
        each(Refused::undone, what + " of an undone motion", NONE, call, 1);
    }

    /** Two committees, two tails, no motion. */
    static void twoAndTwo(KiteTailRental x) {
        Scene.addCommittees(x, 4, 4);
        Scene.tails(x, 5, 2);
    }

    /** Six committees, eight tails and eight open motions, the odd ones seconded, the even ones tabled. */
    static void full(KiteTailRental x) {
        Scene.addCommittees(x, 1, 2, 3, 4, 5, 6);
        Scene.tails(x, 1, 2, 3, 4, 5, 6, 7, 8);
        for (int i = 0; i < 8; i += 2) {
            x.moveToReturn(i % 6, i);
            x.moveToGround((i + 1) % 6, i % 6);
        }
        x.gust(20);
        for (int motion = 1; motion < 8; motion += 2) {
            x.untable(motion);
            x.second((motion + 1) % 6, motion);
        }
    }

    /** Motion 0 was carried, 1 lost and 2 withdrawn; 3 is open, and 4 is the next id. */
    static void closed(KiteTailRental x) {
        twoAndTwo(x);
        x.moveToRent(0, 0);
        x.moveToRent(1, 0);
        x.moveToRent(1, 1);
        x.moveToRent(0, 1);
        x.second(1, 0);
        x.second(0, 1);
        x.second(0, 2);
        x.vote(0);
        x.vote(1);
        x.withdraw(2);
    }

    /** One committee, one tail and one motion are left; those with the number 1 were undone. */
    static void undone(KiteTailRental x) {
        Scene.addCommittees(x, 4);
        Scene.tails(x, 5);
        x.moveToGround(0, 0);
        x.addCommittee(3);
        x.addTail(2);
        x.moveToRent(1, 1);
        x.undo();
        x.undo();
        x.undo();
    }

    /** Leaves a snapshot, an error position and a failure. */
    private static void mark(KiteTailRental x) {
        x.save();
        refuseRun(x, "tail 1;x");
        refuseRun(x, "gust 0;gust 0;gust 21");
    }

    /** The scene on a new object, with a line, if there is a committee, and a command text. */
    private static KiteTailRental prepared(Act scene) {
        KiteTailRental x = new KiteTailRental();
        scene.on(x);
        if (x.committeeCount() > 0) {
            x.describeCommittee(0);
        }
        Scene.type(x, "pass 1");
        return x;
    }

    private static void refuseRun(KiteTailRental x, String text) {
        Scene.type(x, text);
        try {
            x.run();
            Check.fail("run of " + text + " throws nothing");
        } catch (IllegalArgumentException | IllegalStateException e) {
            // It is refused so that there is an error position, or a failure.
        }
    }

    private static String undoOf(KiteTailRental x) {
        try {
            return "" + x.undo();
        } catch (IllegalStateException e) {
            return "refused";
        }
    }

    private static String restoreOf(KiteTailRental x) {
        try {
            return "" + x.restore();
        } catch (IllegalStateException e) {
            return "refused";
        }
    }

    private static void checkRestored(Act scene, String what, Class<? extends RuntimeException> due,
            Act call) {
        KiteTailRental without = prepared(scene);
        KiteTailRental with = prepared(scene);
        Check.fails(what, due, () -> call.on(with));
        Check.same("restore() after " + what, restoreOf(with), restoreOf(without));
        Check.same("all answers after " + what + " and restore()",
                Scene.answers(with), Scene.answers(without));
    }

    /** The command text "pass 1" is still there. */
    private static void checkTyped(Act scene, String what, Class<? extends RuntimeException> due,
            Act call) {
        KiteTailRental x = prepared(scene);
        int hour = x.hour();
        Check.fails(what, due, () -> call.on(x));
        Check.same("append() after " + what, x.append('2'), 7);
        Check.same("run() after " + what, x.run(), 1);
        Check.same("hour() after " + what + " and the typed command", x.hour(), hour + 12);
    }
}
