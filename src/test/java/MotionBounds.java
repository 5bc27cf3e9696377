/** The sentences about motions: "Terms", and promises 17 to 22 and 24 to 29. */
final class MotionBounds {
    private static final String ORDER =
            "If several exceptions apply, the exception listed first is thrown.";

    private MotionBounds() {
    }

    static void tests() {
        terms();
        newMotions();
        moves();
        moveOrders();
        second();
        secondOrders();
        untable();
        withdraw();
        openMotions();
        motionAt();
        questions();
    }

    /** A way to make a motion: to rent, to return or to ground. */
    private interface Move {
        int on(KiteTailRental x, int mover, int object);
    }

    private static Move[] kinds() {
        return new Move[] {(x, m, o) -> x.moveToRent(m, o), (x, m, o) -> x.moveToReturn(m, o),
            (x, m, o) -> x.moveToGround(m, o)};
    }

    /** Committees 0 to 2, tails 0 and 1, and so many open motions of committee 0. */
    private static void open(KiteTailRental x, int count) {
        Scene.addCommittees(x, 4, 4, 4);
        Scene.tails(x, 5, 2);
        for (int i = 0; i < count; i++) {
            x.moveToRent(0, i % 2);
        }
    }

    private static KiteTailRental opened(int count) {
        KiteTailRental x = new KiteTailRental();
        open(x, count);
        return x;
    }

    private static void terms() {
        String limit = "At most 8 motions are open at the same time.";
        Check.sentence(0, limit, "the eighth is taken, the ninth is refused, of each kind", () -> {
            for (Move kind : kinds()) {
                Check.same("the 8th", kind.on(opened(7), 0, 0), 7);
                Refused.on(x -> open(x, 8), "the 9th", Refused.STATE, x -> kind.on(x, 0, 0));
            }
        });
        Check.sentence(0, limit, "there is room again for one when one is withdrawn", () -> {
            for (Move kind : kinds()) {
                KiteTailRental x = opened(8);
                x.withdraw(5);
                Check.same("the next one", kind.on(x, 0, 0), 8);
                Check.fails("one more", Refused.STATE, () -> kind.on(x, 0, 0));
            }
        });
        Check.sentence(0, limit, "there is room again for one when one is carried or lost", () -> {
            KiteTailRental x = opened(8);
            x.second(1, 0);
            Check.yes("vote(0)", x.vote(0));
            Check.same("the next one", x.moveToRent(0, 0), 8);
            Check.fails("one more", Refused.STATE, () -> x.moveToRent(0, 0));
            x.second(1, 8);
            Check.no("vote(8)", x.vote(8));
            Check.same("the next one", x.moveToRent(0, 0), 9);
            Check.fails("one more", Refused.STATE, () -> x.moveToRent(0, 0));
        });
        String ids = "The first motion has the id 0, and each further motion has the id of the motion made"
                + " before it plus 1.";
        Check.sentence(0, ids, "of each kind", () -> {
            for (Move kind : kinds()) {
                KiteTailRental x = opened(0);
                for (int id = 0; id < 8; id++) {
                    Check.same("the id", kind.on(x, 0, 0), id);
                }
            }
        });
        Check.sentence(0, ids, "when none is open any more", () -> {
            KiteTailRental x = opened(1);
            x.withdraw(0);
            Check.same("the id after a withdrawn one", x.moveToReturn(0, 0), 1);
            x.second(1, 1);
            x.vote(1);
            Check.same("the id after a lost one", x.moveToGround(0, 1), 2);
            x.second(1, 2);
            x.vote(2);
            Check.same("the id after a carried one", x.moveToRent(0, 0), 3);
        });
        Check.sentence(0, ids, "a refused motion takes no id", () -> {
            KiteTailRental x = opened(8);
            Check.fails("the 9th", Refused.STATE, () -> x.moveToRent(0, 0));
            Check.fails("no mover", Refused.BOUNDS, () -> x.moveToRent(3, 0));
            x.withdraw(7);
            Check.same("the id", x.moveToRent(0, 0), 8);
        });
        String mover = "A motion has a mover, and moves that the mover rents a tail, that the mover returns a"
                + " tail, or that the kite of a target committee is grounded.";
        Check.sentence(0, mover, () -> {
            KiteTailRental x = opened(0);
            x.moveToRent(2, 1);
            x.moveToReturn(1, 0);
            x.moveToGround(0, 2);
            Check.same("to rent", Scene.motionLine(x, 0), "6:#0r1:2");
            Check.same("to return", Scene.motionLine(x, 1), "6:#1t0:1");
            Check.same("to ground", Scene.motionLine(x, 2), "6:#2g2:0");
        });
    }

    private static void newMotions() {
        Check.sentence(0, "A motion can have a seconder, which is a committee other than the mover.", () -> {
            KiteTailRental x = Scene.committees(1, 1, 1, 1, 1, 1);
            for (int mover = 0; mover < 6; mover++) {
                for (int seconder = 0; seconder < 6; seconder++) {
                    int by = seconder;
                    int motion = x.moveToGround(mover, 0);
                    if (seconder == mover) {
                        Check.fails("second of the mover", Refused.ARGUMENT, () -> x.second(by, motion));
                        Check.no("isSeconded", x.isSeconded(motion));
                    } else {
                        x.second(seconder, motion);
                        Check.same("seconderOf", x.seconderOf(motion), seconder);
                    }
                    x.withdraw(motion);
                }
            }
        });
        Check.sentence(0, "A motion is tabled or not.", () -> {
            KiteTailRental x = opened(1);
            Check.no("isTabled(0)", x.isTabled(0));
            x.gust(1);
            Check.yes("isTabled(0)", x.isTabled(0));
            x.untable(0);
            Check.no("isTabled(0)", x.isTabled(0));
        });
        String fresh = "A new motion has no seconder and is not tabled.";
        Check.sentence(0, fresh, "of each kind", () -> {
            for (Move kind : kinds()) {
                KiteTailRental x = opened(0);
                checkFresh(x, kind.on(x, 0, 0));
            }
        });
        Check.sentence(0, fresh, "in the place of one that was seconded and tabled", () -> {
            for (Move kind : kinds()) {
                KiteTailRental x = opened(8);
                for (int motion = 0; motion < 8; motion++) {
                    x.second(1, motion);
                }
                x.gust(20);
                x.withdraw(3);
                checkFresh(x, kind.on(x, 0, 0));
                x.undo();
                x.undo();
                x.withdraw(7);
                checkFresh(x, kind.on(x, 0, 0));
            }
        });
        Check.sentence(0, "A committee whose kite is grounded can move and second.", () -> {
            for (Move kind : kinds()) {
                KiteTailRental x = opened(0);
                Scene.ground(x, 2, 0, 0);
                Scene.ground(x, 2, 0, 1);
                Check.same("moved by a grounded committee", kind.on(x, 0, 0), 2);
                Check.same("seconded by a grounded committee", x.second(1, 2), 1);
                Check.same("seconderOf(2)", x.seconderOf(2), 1);
            }
        });
        Check.sentence(0, "A tabled motion can be seconded.", () -> {
            KiteTailRental x = opened(1);
            x.gust(1);
            Check.same("second(1, 0)", x.second(1, 0), 1);
            Check.yes("isSeconded(0)", x.isSeconded(0));
            Check.yes("isTabled(0) still", x.isTabled(0));
        });
    }

    private static void checkFresh(KiteTailRental x, int motion) {
        Check.no("isSeconded(" + motion + ")", x.isSeconded(motion));
        Check.no("isTabled(" + motion + ")", x.isTabled(motion));
        Check.fails("seconderOf(" + motion + ")", Refused.STATE, () -> x.seconderOf(motion));
    }

    private static void moves() {
        Move[] kinds = kinds();
        String[] bounds = {"Throws `IndexOutOfBoundsException` if there is no such committee or tail",
            "Throws `IndexOutOfBoundsException` if there is no such committee or tail",
            "Throws `IndexOutOfBoundsException` if there is no such committee, for either"};
        for (int i = 0; i < 3; i++) {
            int promise = 17 + i;
            Move kind = kinds[i];
            Check.sentence(promise, "Returns the id of the motion.", () -> {
                KiteTailRental x = opened(0);
                Check.same("the first", kind.on(x, 0, 1), 0);
                Check.same("the second", kind.on(x, 1, 0), 1);
                Check.same("moverOf(0)", x.moverOf(0), 0);
                Check.same("moverOf(1)", x.moverOf(1), 1);
            });
            Check.sentence(promise, bounds[i], "the mover", () -> {
                Refused.noSuchCommittee("a motion", (x, n) -> kind.on(x, n, 0));
            });
            Check.sentence(promise, bounds[i], promise == 19 ? "the target" : "the tail", () -> {
                if (promise == 19) {
                    Refused.noSuchCommittee("a motion", (x, n) -> kind.on(x, 0, n));
                } else {
                    Refused.noSuchTail("a motion", (x, n) -> kind.on(x, 0, n));
                }
            });
            Check.sentence(promise, "Throws `IllegalStateException` if 8 motions are open", () -> {
                Refused.on(x -> open(x, 8), "the 9th motion", Refused.STATE, x -> kind.on(x, 2, 1));
                Refused.on(Refused::full, "the 9th motion", Refused.STATE, x -> kind.on(x, 5, 5));
                Check.same("the 8th", kind.on(opened(7), 2, 1), 7);
            });
        }
        Check.sentence(19, "- `target`: the committee whose kite is to be grounded, possibly the mover", () -> {
            KiteTailRental x = opened(0);
            Check.same("moveToGround(1, 1)", x.moveToGround(1, 1), 0);
            x.second(0, 0);
            Check.yes("vote(0)", x.vote(0));
            Check.no("isFlying(1)", x.isFlying(1));
        });
    }

    private static void moveOrders() {
        Check.sentence(0, ORDER, "moveToRent: the committee or tail before the 8 motions", () -> {
            Refused.on(x -> open(x, 8), "no mover", Refused.BOUNDS, x -> x.moveToRent(3, 0));
            Refused.on(x -> open(x, 8), "no tail", Refused.BOUNDS, x -> x.moveToRent(0, 2));
            Refused.on(x -> open(x, 8), "neither", Refused.BOUNDS, x -> x.moveToRent(-1, -1));
        });
        Check.sentence(0, ORDER, "moveToReturn: the committee or tail before the 8 motions", () -> {
            Refused.on(x -> open(x, 8), "no mover", Refused.BOUNDS, x -> x.moveToReturn(3, 0));
            Refused.on(x -> open(x, 8), "no tail", Refused.BOUNDS, x -> x.moveToReturn(0, 2));
            Refused.on(x -> open(x, 8), "neither", Refused.BOUNDS, x -> x.moveToReturn(-1, -1));
        });
        Check.sentence(0, ORDER, "moveToGround: the committees before the 8 motions", () -> {
            Refused.on(x -> open(x, 8), "no mover", Refused.BOUNDS, x -> x.moveToGround(3, 0));
            Refused.on(x -> open(x, 8), "no target", Refused.BOUNDS, x -> x.moveToGround(0, 3));
            Refused.on(x -> open(x, 8), "neither", Refused.BOUNDS, x -> x.moveToGround(-1, -1));
        });
    }

    /** Two open motions of committee 0, the first one seconded by committee 1. */
    private static void oneSeconded(KiteTailRental x) {
        open(x, 2);
        x.second(1, 0);
    }

    private static void second() {
        Check.sentence(20, "Returns the number of open motions that have a seconder after the call.", () -> {
            KiteTailRental x = opened(8);
            for (int motion = 0; motion < 8; motion++) {
                Check.same("second(1, " + motion + ")", x.second(1, motion), motion + 1);
            }
            x.withdraw(0);
            x.withdraw(7);
            Check.same("second of a new one where two were closed", x.second(2, x.moveToRent(0, 0)), 7);
        });
        Check.sentence(20, "Throws `IndexOutOfBoundsException` if there is no such committee", () -> {
            Refused.noSuchCommittee("second", (x, n) -> x.second(n, 0));
            Refused.each(x -> open(x, 1), "second", Refused.BOUNDS, (x, n) -> x.second(n, 0), -1, 3);
        });
        Check.sentence(20, "Throws `NoSuchElementException` if no open motion has this id", () -> {
            Refused.noSuchMotion("second", (x, n) -> x.second(0, n));
        });
        Check.sentence(20, "Throws `IllegalArgumentException` if the committee is the mover", () -> {
            Refused.on(x -> open(x, 1), "second(0, 0)", Refused.ARGUMENT, x -> x.second(0, 0));
            Refused.on(Refused::full, "second(4, 4)", Refused.ARGUMENT, x -> x.second(4, 4));
        });
        Check.sentence(20, "Throws `IllegalStateException` if the motion has a seconder", () -> {
            Refused.on(MotionBounds::oneSeconded, "the same again", Refused.STATE, x -> x.second(1, 0));
            Refused.on(MotionBounds::oneSeconded, "another one", Refused.STATE, x -> x.second(2, 0));
            KiteTailRental x = new KiteTailRental();
            oneSeconded(x);
            Check.same("second on the other motion", x.second(1, 1), 2);
        });
        Check.sentence(20, "Throws `IllegalStateException` if the motion has a seconder",
                "which is committee 0", () -> {
            Refused.on(x -> {
                open(x, 0);
                x.moveToGround(1, 1);
                x.second(0, 0);
            }, "second(2, 0)", Refused.STATE, x -> x.second(2, 0));
        });
    }

    private static void secondOrders() {
        Check.sentence(0, ORDER, "second: the committee before the motion", () -> {
            Refused.on(x -> open(x, 1), "second(3, 1)", Refused.BOUNDS, x -> x.second(3, 1));
            Refused.on(x -> { }, "second(0, 0)", Refused.BOUNDS, x -> x.second(0, 0));
        });
        Check.sentence(0, ORDER, "second: the committee before the seconder", () -> {
            Refused.on(MotionBounds::oneSeconded, "second(3, 0)", Refused.BOUNDS, x -> x.second(3, 0));
        });
        Check.sentence(0, ORDER, "second: the mover before the seconder", () -> {
            Refused.on(MotionBounds::oneSeconded, "second(0, 0)", Refused.ARGUMENT, x -> x.second(0, 0));
        });
    }

    private static void untable() {
        String cost = "Takes a motion from the table, at the cost of one coin that is added to the arrears of"
                + " the mover.";
        Check.sentence(21, cost, () -> {
            KiteTailRental x = opened(1);
            x.moveToRent(1, 0);
            x.second(1, 0);
            x.gust(1);
            x.untable(0);
            Check.no("isTabled(0)", x.isTabled(0));
            Check.yes("isTabled(1) still", x.isTabled(1));
            Check.same("arrears of the mover", x.arrears(0), 1);
            Check.same("arrears of the seconder", x.arrears(1), 0);
            Check.same("chargedTotal()", x.chargedTotal(), 1);
        });
        Check.sentence(21, cost, "also of a mover whose kite is grounded", () -> {
            KiteTailRental x = opened(1);
            x.gust(1);
            Scene.ground(x, 0, 1, 0);
            Check.same("untable(0)", x.untable(0), 1);
            Check.no("isTabled(0)", x.isTabled(0));
        });
        Check.sentence(21, "Returns the arrears of the mover after the call.", () -> {
            KiteTailRental x = opened(1);
            for (int coin = 1; coin <= 32; coin++) {
                x.gust(1);
                Check.same("untable(0)", x.untable(0), coin);
            }
            Check.yes("isFlying(0) above 30", x.isFlying(0));
        });
        Check.sentence(21, "Throws `NoSuchElementException` if no open motion has this id", () -> {
            Refused.noSuchMotion("untable", (x, n) -> x.untable(n));
            Refused.on(x -> {
                open(x, 1);
                x.gust(1);
                x.withdraw(0);
            }, "untable of a motion withdrawn when tabled", Refused.NONE, x -> x.untable(0));
        });
        String state = "Throws `IllegalStateException` if the motion is not tabled";
        Check.sentence(21, state, "a new one, and a seconded one", () -> {
            Refused.on(x -> open(x, 1), "untable(0)", Refused.STATE, x -> x.untable(0));
            Refused.on(MotionBounds::oneSeconded, "untable(0)", Refused.STATE, x -> x.untable(0));
        });
        Check.sentence(21, state, "one that was taken from the table, beside a tabled one", () -> {
            Refused.on(x -> {
                open(x, 2);
                x.gust(1);
                x.untable(0);
            }, "untable(0) again", Refused.STATE, x -> x.untable(0));
        });
    }

    private static void withdraw() {
        Check.sentence(22, "Withdraws a motion, which is open no longer.", () -> {
            for (int withdrawn = 0; withdrawn < 8; withdrawn++) {
                KiteTailRental x = opened(8);
                int motion = withdrawn;
                x.withdraw(motion);
                Check.fails("moverOf(" + motion + ")", Refused.NONE, () -> x.moverOf(motion));
                for (int position = 0; position < 7; position++) {
                    Check.same("motionAt", x.motionAt(position), position < motion ? position : position + 1);
                }
            }
        });
        Check.sentence(22, "Returns the number of open motions after the call.", () -> {
            KiteTailRental x = opened(8);
            for (int motion = 0; motion < 8; motion++) {
                Check.same("withdraw(" + motion + ")", x.withdraw(motion), 7 - motion);
            }
        });
        Check.sentence(22, "Throws `NoSuchElementException` if no open motion has this id", () -> {
            Refused.noSuchMotion("withdraw", (x, n) -> x.withdraw(n));
        });
    }

    private static void openMotions() {
        Check.sentence(24, "Returns the number of open motions.", () -> {
            KiteTailRental x = opened(0);
            for (int count = 0; count < 8; count++) {
                Check.same("openMotions()", x.openMotions(), count);
                x.moveToRent(0, 0);
            }
            Check.same("openMotions() of 8", x.openMotions(), 8);
            x.gust(20);
            x.second(1, 0);
            Check.same("openMotions() of 8 tabled ones", x.openMotions(), 8);
            for (int count = 7; count >= 0; count--) {
                x.withdraw(count);
                Check.same("openMotions()", x.openMotions(), count);
            }
        });
    }

    private static void motionAt() {
        String order = "Returns the id of an open motion by its position in the order in which the motions"
                + " were made.";
        Check.sentence(25, order, () -> {
            KiteTailRental x = opened(8);
            x.withdraw(0);
            x.withdraw(4);
            x.withdraw(7);
            x.moveToGround(0, 0);
            x.moveToRent(0, 0);
            int[] due = {1, 2, 3, 5, 6, 8, 9};
            for (int position = 0; position < due.length; position++) {
                Check.same("motionAt(" + position + ")", x.motionAt(position), due[position]);
            }
        });
        Check.sentence(25, "- `position`: the position, from 0", () -> {
            KiteTailRental x = opened(8);
            Check.same("motionAt(0)", x.motionAt(0), 0);
            Check.same("motionAt(7)", x.motionAt(7), 7);
        });
        Check.sentence(25, "Throws `IndexOutOfBoundsException` if there is no such position", () -> {
            Refused.each(x -> open(x, 0), "motionAt of 0", Refused.BOUNDS, (x, n) -> x.motionAt(n),
                    0, 1, -1);
            Refused.each(x -> open(x, 2), "motionAt of 2", Refused.BOUNDS, (x, n) -> x.motionAt(n),
                    2, 3, -1);
            Refused.each(x -> open(x, 8), "motionAt of 8", Refused.BOUNDS, (x, n) -> x.motionAt(n),
                    8, 9, -1, Integer.MIN_VALUE, Integer.MAX_VALUE);
            Refused.each(Refused::closed, "motionAt where some are closed", Refused.BOUNDS,
                    (x, n) -> x.motionAt(n), 1, 2, 3);
        });
    }

    private static void questions() {
        Check.sentence(26, "Returns the mover of a motion.", () -> {
            KiteTailRental x = Scene.committees(1, 1, 1, 1, 1, 1);
            for (int mover = 0; mover < 6; mover++) {
                x.moveToGround(mover, 5 - mover);
                Check.same("moverOf(" + mover + ")", x.moverOf(mover), mover);
            }
        });
        Check.sentence(27, "Returns whether it has a seconder.", () -> {
            KiteTailRental x = opened(0);
            x.moveToRent(1, 0);
            x.moveToRent(1, 0);
            Check.no("isSeconded(0)", x.isSeconded(0));
            x.second(0, 0);
            Check.yes("isSeconded(0) by committee 0", x.isSeconded(0));
            Check.no("isSeconded(1)", x.isSeconded(1));
        });
        Check.sentence(28, "Returns the seconder of a motion.", () -> {
            KiteTailRental x = Scene.committees(1, 1, 1, 1, 1, 1);
            x.moveToGround(5, 0);
            x.moveToGround(0, 5);
            x.second(0, 0);
            x.second(5, 1);
            Check.same("seconderOf(0)", x.seconderOf(0), 0);
            Check.same("seconderOf(1)", x.seconderOf(1), 5);
        });
        String none = "Throws `NoSuchElementException` if no open motion has this id";
        Check.sentence(26, none, () -> Refused.noSuchMotion("moverOf", (x, n) -> x.moverOf(n)));
        Check.sentence(27, none, () -> Refused.noSuchMotion("isSeconded", (x, n) -> x.isSeconded(n)));
        Check.sentence(28, none, () -> Refused.noSuchMotion("seconderOf", (x, n) -> x.seconderOf(n)));
        Check.sentence(28, "Throws `IllegalStateException` if the motion has no seconder", () -> {
            Refused.on(x -> open(x, 1), "seconderOf(0)", Refused.STATE, x -> x.seconderOf(0));
            Refused.on(MotionBounds::oneSeconded, "seconderOf(1)", Refused.STATE, x -> x.seconderOf(1));
        });
        Check.sentence(29, "Returns whether it is tabled.", () -> {
            KiteTailRental x = opened(8);
            x.gust(20);
            x.untable(0);
            Check.no("isTabled(0)", x.isTabled(0));
            Check.yes("isTabled(7)", x.isTabled(7));
        });
        Check.sentence(29, none, () -> Refused.noSuchMotion("isTabled", (x, n) -> x.isTabled(n)));
    }
}
