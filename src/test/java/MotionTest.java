import java.util.NoSuchElementException;

/** Promises 17 to 29: motions up to the vote. */
public final class MotionTest {
    private static final Class<IndexOutOfBoundsException> BOUNDS = IndexOutOfBoundsException.class;
    private static final Class<IllegalArgumentException> ARGUMENT = IllegalArgumentException.class;
    private static final Class<IllegalStateException> STATE = IllegalStateException.class;
    private static final Class<NoSuchElementException> NONE = NoSuchElementException.class;

    private static final int[] NEVER = {-1, 99, Integer.MAX_VALUE, Integer.MIN_VALUE};

    public static void main(String[] args) {
        Check.test("17 moveToRent", MotionTest::moveToRent);
        Check.test("17 moveToRent refuses", MotionTest::moveToRentRefuses);
        Check.test("18 moveToReturn", MotionTest::moveToReturn);
        Check.test("18 moveToReturn refuses", MotionTest::moveToReturnRefuses);
        Check.test("19 moveToGround", MotionTest::moveToGround);
        Check.test("19 moveToGround refuses", MotionTest::moveToGroundRefuses);
        Check.test("17-19 ids go on when motions are closed", MotionTest::idsGoOn);
        Check.test("17-19 a grounded committee can move and second", MotionTest::groundedActs);
        Check.test("20 second", MotionTest::second);
        Check.test("20 second refuses, first fault first", MotionTest::secondRefuses);
        Check.test("20 second on a tabled motion", MotionTest::secondTabled);
        Check.test("21 untable", MotionTest::untable);
        Check.test("21 untable refuses", MotionTest::untableRefuses);
        Check.test("22 withdraw", MotionTest::withdraw);
        Check.test("22 withdraw refuses", MotionTest::withdrawRefuses);
        Check.test("24 openMotions", MotionTest::openMotions);
        Check.test("25 motionAt keeps the order", MotionTest::motionAt);
        Check.test("25 motionAt refuses", MotionTest::motionAtRefuses);
        Check.test("26 moverOf", MotionTest::moverOf);
        Check.test("27 isSeconded", MotionTest::isSeconded);
        Check.test("28 seconderOf", MotionTest::seconderOf);
        Check.test("29 isTabled", MotionTest::isTabled);
        Check.test("26-29 motions keep their own data when others are closed", MotionTest::ownData);
        Check.end();
    }

    private static KiteTailRental twoAndTwo() {
        KiteTailRental x = Scene.committees(4, 4);
        Scene.tails(x, 5, 2);
        return x;
    }

    /** Eight open motions with the ids 0 to 7, moved by the committees 0 and 1 in turn. */
    private static KiteTailRental full() {
        KiteTailRental x = Scene.committees(4, 4, 1);
        Scene.tails(x, 5, 2);
        for (int i = 0; i < 8; i++) {
            x.moveToRent(i % 2, i % 2);
        }
        return x;
    }

    private static void checkNew(KiteTailRental x, int motion, int mover) {
        Check.same("moverOf the new one", x.moverOf(motion), mover);
        Check.no("isSeconded of the new one", x.isSeconded(motion));
        Check.no("isTabled of the new one", x.isTabled(motion));
    }

    private static void moveToRent() {
        KiteTailRental x = twoAndTwo();
        Check.same("moveToRent(1, 0)", x.moveToRent(1, 0), 0);
        Check.same("moveToRent(0, 1)", x.moveToRent(0, 1), 1);
        Check.same("moveToRent(0, 1) again", x.moveToRent(0, 1), 2);
        checkNew(x, 0, 1);
        checkNew(x, 1, 0);
        Check.same("motion 0", Scene.motionLine(x, 0), "6:#0r0:1");
        Check.same("motion 1", Scene.motionLine(x, 1), "6:#1r1:0");
        Check.yes("the tail stays free", x.isFree(0));
        x.second(0, 0);
        x.vote(0);
        Check.same("a rented tail can be moved for", x.moveToRent(0, 0), 3);
    }

    private static void moveToRentRefuses() {
        KiteTailRental x = twoAndTwo();
        for (int wrong : new int[] {-1, 2, 6, Integer.MAX_VALUE, Integer.MIN_VALUE}) {
            Check.fails("moveToRent(" + wrong + ", 0)", BOUNDS, () -> x.moveToRent(wrong, 0));
            Check.fails("moveToRent(0, " + wrong + ")", BOUNDS, () -> x.moveToRent(0, wrong));
        }
        Check.same("openMotions() after refusals", x.openMotions(), 0);
        KiteTailRental y = full();
        Check.fails("a 9th motion", STATE, () -> y.moveToRent(0, 0));
        Check.fails("a 9th motion of no mover", BOUNDS, () -> y.moveToRent(3, 0));
        Check.fails("a 9th motion for no tail", BOUNDS, () -> y.moveToRent(0, 2));
        y.withdraw(3);
        Check.same("the id after refusals", y.moveToRent(0, 0), 8);
    }

    private static void moveToReturn() {
        KiteTailRental x = twoAndTwo();
        Check.same("moveToReturn(1, 0)", x.moveToReturn(1, 0), 0);
        Check.same("moveToReturn(0, 1)", x.moveToReturn(0, 1), 1);
        checkNew(x, 0, 1);
        checkNew(x, 1, 0);
        Check.same("motion 0", Scene.motionLine(x, 0), "6:#0t0:1");
        Check.same("motion 1", Scene.motionLine(x, 1), "6:#1t1:0");
    }

    private static void moveToReturnRefuses() {
        KiteTailRental x = twoAndTwo();
        for (int wrong : new int[] {-1, 2, 6, Integer.MAX_VALUE, Integer.MIN_VALUE}) {
            Check.fails("moveToReturn(" + wrong + ", 0)", BOUNDS, () -> x.moveToReturn(wrong, 0));
            Check.fails("moveToReturn(0, " + wrong + ")", BOUNDS, () -> x.moveToReturn(0, wrong));
        }
        Check.same("openMotions() after refusals", x.openMotions(), 0);
        KiteTailRental y = full();
        Check.fails("a 9th motion", STATE, () -> y.moveToReturn(0, 0));
        Check.fails("a 9th motion of no mover", BOUNDS, () -> y.moveToReturn(3, 0));
        Check.fails("a 9th motion for no tail", BOUNDS, () -> y.moveToReturn(0, 2));
        y.withdraw(0);
        Check.same("the id after refusals", y.moveToReturn(0, 0), 8);
    }

    private static void moveToGround() {
        KiteTailRental x = Scene.committees(4, 4, 4);
        Check.same("moveToGround(1, 2)", x.moveToGround(1, 2), 0);
        Check.same("moveToGround(0, 0), itself", x.moveToGround(0, 0), 1);
        checkNew(x, 0, 1);
        checkNew(x, 1, 0);
        Check.same("motion 0", Scene.motionLine(x, 0), "6:#0g2:1");
        Check.same("motion 1", Scene.motionLine(x, 1), "6:#1g0:0");
        Check.yes("the target still flies", x.isFlying(2));
    }

    private static void moveToGroundRefuses() {
        KiteTailRental x = twoAndTwo();
        x.addTail(1);
        for (int wrong : new int[] {-1, 2, 6, Integer.MAX_VALUE, Integer.MIN_VALUE}) {
            Check.fails("moveToGround(" + wrong + ", 0)", BOUNDS, () -> x.moveToGround(wrong, 0));
            Check.fails("moveToGround(0, " + wrong + ")", BOUNDS, () -> x.moveToGround(0, wrong));
        }
        Check.same("openMotions() after refusals", x.openMotions(), 0);
        KiteTailRental y = full();
        Check.fails("a 9th motion", STATE, () -> y.moveToGround(0, 0));
        Check.fails("a 9th motion of no mover", BOUNDS, () -> y.moveToGround(3, 0));
        Check.fails("a 9th motion for no target", BOUNDS, () -> y.moveToGround(0, 3));
        y.withdraw(7);
        Check.same("the id after refusals", y.moveToGround(0, 2), 8);
    }

    private static void idsGoOn() {
        KiteTailRental x = twoAndTwo();
        x.moveToRent(0, 0);
        x.withdraw(0);
        Check.same("after a withdrawn one", x.moveToReturn(0, 0), 1);
        x.second(1, 1);
        x.vote(1);
        Check.same("after a lost one", x.moveToGround(0, 1), 2);
        x.second(1, 2);
        x.vote(2);
        Check.same("after a carried one", x.moveToRent(0, 0), 3);
        for (int id = 3; id < 120; id++) {
            x.withdraw(id);
            Check.same("a further one", x.moveToRent(0, 0), id + 1);
        }
    }

    private static void groundedActs() {
        KiteTailRental x = Scene.committees(1, 1, 1);
        Scene.tails(x, 3);
        Scene.ground(x, 2, 0, 0);
        Scene.ground(x, 2, 0, 1);
        Check.same("moveToRent of a grounded committee", x.moveToRent(0, 0), 2);
        Check.same("moveToReturn of a grounded committee", x.moveToReturn(0, 0), 3);
        Check.same("moveToGround of a grounded committee", x.moveToGround(0, 2), 4);
        Check.same("second of a grounded committee", x.second(1, 4), 1);
        Check.yes("vote on it", x.vote(4));
        Check.no("isFlying(2)", x.isFlying(2));
    }

    private static void second() {
        KiteTailRental x = full();
        Check.same("second(1, 0)", x.second(1, 0), 1);
        Check.same("second(0, 7)", x.second(0, 7), 2);
        Check.same("second(2, 4)", x.second(2, 4), 3);
        Check.same("seconderOf(0)", x.seconderOf(0), 1);
        Check.same("seconderOf(7)", x.seconderOf(7), 0);
        Check.same("seconderOf(4)", x.seconderOf(4), 2);
        x.withdraw(0);
        Check.same("second(1, 2) after a seconded one is withdrawn", x.second(1, 2), 3);
        x.withdraw(1);
        Check.same("second(2, 3) after another one is withdrawn", x.second(2, 3), 4);
        Check.same("openMotions()", x.openMotions(), 6);
    }

    private static void secondRefuses() {
        KiteTailRental x = full();
        x.second(1, 0);
        for (int wrong : new int[] {-1, 3, 6, Integer.MAX_VALUE, Integer.MIN_VALUE}) {
            Check.fails("second(" + wrong + ", 2)", BOUNDS, () -> x.second(wrong, 2));
            Check.fails("second(" + wrong + ", 0)", BOUNDS, () -> x.second(wrong, 0));
            Check.fails("second(" + wrong + ", 99)", BOUNDS, () -> x.second(wrong, 99));
        }
        for (int wrong : NEVER) {
            Check.fails("second(0, " + wrong + ")", NONE, () -> x.second(0, wrong));
        }
        Check.fails("second(0, 8), the next id", NONE, () -> x.second(0, 8));
        Check.fails("second of the mover", ARGUMENT, () -> x.second(0, 2));
        Check.fails("second of the mover on a seconded motion", ARGUMENT, () -> x.second(0, 0));
        Check.fails("a further seconder", STATE, () -> x.second(2, 0));
        Check.fails("the same seconder again", STATE, () -> x.second(1, 0));
        Check.same("seconderOf(0) after refusals", x.seconderOf(0), 1);
        x.withdraw(0);
        Check.fails("second on a withdrawn motion", NONE, () -> x.second(1, 0));
    }

    private static void secondTabled() {
        KiteTailRental x = twoAndTwo();
        x.moveToRent(0, 0);
        x.gust(1);
        Check.same("second on a tabled motion", x.second(1, 0), 1);
        Check.yes("it stays tabled", x.isTabled(0));
        Check.same("its seconder", x.seconderOf(0), 1);
    }

    private static void untable() {
        KiteTailRental x = twoAndTwo();
        x.moveToRent(0, 0);
        x.moveToRent(1, 1);
        x.second(1, 0);
        x.gust(1);
        Check.same("untable(0)", x.untable(0), 1);
        Check.no("isTabled(0)", x.isTabled(0));
        Check.yes("isTabled(1) still", x.isTabled(1));
        Check.same("arrears(0)", x.arrears(0), 1);
        Check.same("arrears(1), the seconder", x.arrears(1), 0);
        Check.same("chargedTotal()", x.chargedTotal(), 1);
        Check.same("paidTotal()", x.paidTotal(), 0);
        Check.same("seconderOf(0) still", x.seconderOf(0), 1);
        x.gust(1);
        Check.same("untable(0) again", x.untable(0), 2);
        Check.same("untable(1)", x.untable(1), 1);
        Check.same("chargedTotal() in the end", x.chargedTotal(), 3);
        Scene.owe(x, 0, 29);
        Check.same("arrears(0) above 30", x.arrears(0), 31);
        Check.yes("untable grounds no kite", x.isFlying(0));
    }

    private static void untableRefuses() {
        KiteTailRental x = twoAndTwo();
        x.moveToRent(0, 0);
        for (int wrong : NEVER) {
            Check.fails("untable(" + wrong + ")", NONE, () -> x.untable(wrong));
        }
        Check.fails("untable(1), the next id", NONE, () -> x.untable(1));
        Check.fails("untable(0), not tabled", STATE, () -> x.untable(0));
        x.gust(1);
        x.untable(0);
        Check.fails("untable(0) again", STATE, () -> x.untable(0));
        x.gust(1);
        x.withdraw(0);
        Check.fails("untable(0), withdrawn", NONE, () -> x.untable(0));
        Check.same("arrears(0)", x.arrears(0), 1);
        Check.same("chargedTotal()", x.chargedTotal(), 1);
    }

    private static void withdraw() {
        KiteTailRental x = full();
        x.second(1, 2);
        x.gust(3);
        Check.same("withdraw(3), tabled", x.withdraw(3), 7);
        Check.same("withdraw(2), seconded", x.withdraw(2), 6);
        Check.same("withdraw(7), the last", x.withdraw(7), 5);
        Check.same("withdraw(0), the first", x.withdraw(0), 4);
        int[] left = {1, 4, 5, 6};
        for (int position = 0; position < left.length; position++) {
            Check.same("motionAt", x.motionAt(position), left[position]);
        }
        Check.same("carriedCount()", x.carriedCount(), 0);
        Check.same("lostCount()", x.lostCount(), 0);
        for (int i = 0; i < left.length; i++) {
            Check.same("withdraw", x.withdraw(left[i]), 3 - i);
        }
        Check.same("arrears(0)", x.arrears(0), 0);
    }

    private static void withdrawRefuses() {
        KiteTailRental x = twoAndTwo();
        Check.fails("withdraw(0) without motions", NONE, () -> x.withdraw(0));
        x.moveToRent(0, 0);
        x.moveToRent(0, 0);
        for (int wrong : NEVER) {
            Check.fails("withdraw(" + wrong + ")", NONE, () -> x.withdraw(wrong));
        }
        Check.fails("withdraw(2), the next id", NONE, () -> x.withdraw(2));
        x.withdraw(0);
        Check.fails("withdraw(0) again", NONE, () -> x.withdraw(0));
        Check.same("openMotions()", x.openMotions(), 1);
    }

    private static void openMotions() {
        KiteTailRental x = twoAndTwo();
        for (int count = 1; count <= 8; count++) {
            x.moveToRent(0, 0);
            Check.same("openMotions()", x.openMotions(), count);
        }
        x.withdraw(4);
        Check.same("openMotions() after a withdrawal", x.openMotions(), 7);
        x.second(1, 5);
        x.gust(20);
        Check.same("openMotions() with seconded and tabled ones", x.openMotions(), 7);
        x.untable(5);
        x.vote(5);
        Check.same("openMotions() after a vote", x.openMotions(), 6);
    }

    private static void motionAt() {
        KiteTailRental x = full();
        for (int position = 0; position < 8; position++) {
            Check.same("motionAt(" + position + ")", x.motionAt(position), position);
        }
        x.withdraw(3);
        x.withdraw(0);
        x.moveToGround(0, 1);
        int[] due = {1, 2, 4, 5, 6, 7, 8};
        for (int position = 0; position < due.length; position++) {
            Check.same("motionAt(" + position + ")", x.motionAt(position), due[position]);
        }
    }

    private static void motionAtRefuses() {
        KiteTailRental x = twoAndTwo();
        Check.fails("motionAt(0) without motions", BOUNDS, () -> x.motionAt(0));
        x.moveToRent(0, 0);
        x.moveToRent(0, 0);
        for (int wrong : new int[] {-1, 2, 7, 8, Integer.MAX_VALUE, Integer.MIN_VALUE}) {
            Check.fails("motionAt(" + wrong + ")", BOUNDS, () -> x.motionAt(wrong));
        }
        x.withdraw(0);
        Check.same("motionAt(0)", x.motionAt(0), 1);
        Check.fails("motionAt(1)", BOUNDS, () -> x.motionAt(1));
    }

    private static void moverOf() {
        KiteTailRental x = full();
        Check.same("moverOf(0)", x.moverOf(0), 0);
        Check.same("moverOf(3)", x.moverOf(3), 1);
        x.withdraw(5);
        x.moveToGround(2, 0);
        Check.same("moverOf(8)", x.moverOf(8), 2);
        for (int wrong : NEVER) {
            Check.fails("moverOf(" + wrong + ")", NONE, () -> x.moverOf(wrong));
        }
        Check.fails("moverOf(9), the next id", NONE, () -> x.moverOf(9));
        Check.fails("moverOf(5), withdrawn", NONE, () -> x.moverOf(5));
    }

    private static void isSeconded() {
        KiteTailRental x = full();
        Check.no("isSeconded(1)", x.isSeconded(1));
        x.second(0, 1);
        Check.yes("isSeconded(1) by committee 0", x.isSeconded(1));
        Check.no("isSeconded(3)", x.isSeconded(3));
        for (int wrong : NEVER) {
            Check.fails("isSeconded(" + wrong + ")", NONE, () -> x.isSeconded(wrong));
        }
        x.withdraw(1);
        Check.fails("isSeconded(1), withdrawn", NONE, () -> x.isSeconded(1));
    }

    private static void seconderOf() {
        KiteTailRental x = full();
        x.second(0, 1);
        x.second(2, 4);
        Check.same("seconderOf(1)", x.seconderOf(1), 0);
        Check.same("seconderOf(4)", x.seconderOf(4), 2);
        Check.fails("seconderOf(0)", STATE, () -> x.seconderOf(0));
        for (int wrong : NEVER) {
            Check.fails("seconderOf(" + wrong + ")", NONE, () -> x.seconderOf(wrong));
        }
        x.withdraw(1);
        Check.fails("seconderOf(1), withdrawn", NONE, () -> x.seconderOf(1));
    }

    private static void isTabled() {
        KiteTailRental x = full();
        Check.no("isTabled(0)", x.isTabled(0));
        x.gust(1);
        Check.yes("isTabled(0) after a gust", x.isTabled(0));
        Check.yes("isTabled(7) after a gust", x.isTabled(7));
        x.untable(7);
        Check.yes("isTabled(0) still", x.isTabled(0));
        Check.no("isTabled(7) taken up", x.isTabled(7));
        for (int wrong : NEVER) {
            Check.fails("isTabled(" + wrong + ")", NONE, () -> x.isTabled(wrong));
        }
        x.withdraw(0);
        Check.fails("isTabled(0), withdrawn", NONE, () -> x.isTabled(0));
    }

    private static void ownData() {
        KiteTailRental x = Scene.committees(4, 4, 1);
        Scene.tails(x, 5, 2);
        Scene.rent(x, 1, 0, 0);
        x.moveToRent(0, 1);
        x.moveToReturn(1, 0);
        x.moveToGround(2, 1);
        x.moveToGround(1, 2);
        x.second(2, 4);
        x.second(0, 2);
        x.gust(3);
        x.withdraw(1);
        Check.same("motion 2", Scene.motionLine(x, 2), "8:#2t0:1+0");
        Check.same("motion 3", Scene.motionLine(x, 3), "7:#3g1:2!");
        Check.same("motion 4", Scene.motionLine(x, 4), "8:#4g2:1+2");
        x.withdraw(2);
        Check.same("motion 3", Scene.motionLine(x, 3), "7:#3g1:2!");
        Check.same("motion 4", Scene.motionLine(x, 4), "8:#4g2:1+2");
        x.moveToRent(0, 0);
        Check.same("motion 5", Scene.motionLine(x, 5), "6:#5r0:0");
    }
}
