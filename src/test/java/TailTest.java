import java.util.NoSuchElementException;

/** Promises 3 and 12 to 16: tails. */
public final class TailTest {
    private static final Class<IndexOutOfBoundsException> BOUNDS = IndexOutOfBoundsException.class;
    private static final Class<IllegalArgumentException> ARGUMENT = IllegalArgumentException.class;
    private static final Class<IllegalStateException> STATE = IllegalStateException.class;
    private static final Class<NoSuchElementException> NONE = NoSuchElementException.class;

    private static final int[] NOT_OF_THREE = {-1, 3, 7, 8, Integer.MAX_VALUE, Integer.MIN_VALUE};

    public static void main(String[] args) {
        Check.test("3 addTail numbers from 0", TailTest::addTail);
        Check.test("3 addTail refuses", TailTest::addTailRefuses);
        Check.test("12 tailCount counts free and rented tails", TailTest::tailCount);
        Check.test("13 length", TailTest::length);
        Check.test("14 isFree", TailTest::isFree);
        Check.test("15 renterOf", TailTest::renterOf);
        Check.test("16 shortestFreeTail", TailTest::shortestFreeTail);
        Check.test("16 shortestFreeTail refuses", TailTest::shortestFreeTailRefuses);
        Check.end();
    }

    /** Committees 0 and 1; committee 1 rents tail 1 of the tails 5, 1 and 9. */
    private static KiteTailRental threeTails() {
        KiteTailRental x = Scene.committees(4, 4);
        Scene.tails(x, 5, 1, 9);
        Scene.rent(x, 1, 0, 1);
        return x;
    }

    private static void addTail() {
        KiteTailRental x = new KiteTailRental();
        int[] lengths = {9, 1, 5, 5, 2, 8, 4, 3};
        for (int number = 0; number < lengths.length; number++) {
            Check.same("addTail", x.addTail(lengths[number]), number);
            Check.same("length of the new one", x.length(number), lengths[number]);
            Check.yes("isFree of the new one", x.isFree(number));
        }
    }

    private static void addTailRefuses() {
        KiteTailRental x = new KiteTailRental();
        for (int wrong : new int[] {0, 10, -1, Integer.MAX_VALUE, Integer.MIN_VALUE}) {
            Check.fails("addTail(" + wrong + ")", ARGUMENT, () -> x.addTail(wrong));
        }
        Check.same("tailCount() after refusals", x.tailCount(), 0);
        for (int i = 0; i < 8; i++) {
            x.addTail(3);
        }
        Check.fails("a 9th tail", STATE, () -> x.addTail(3));
        Check.fails("a 9th tail of 0", ARGUMENT, () -> x.addTail(0));
        Check.fails("a 9th tail of 10", ARGUMENT, () -> x.addTail(10));
        Check.same("tailCount() when full", x.tailCount(), 8);
        Check.same("undo() counts no refused call", x.undo(), 7);
    }

    private static void tailCount() {
        KiteTailRental x = new KiteTailRental();
        for (int count = 1; count <= 8; count++) {
            x.addTail(count);
            Check.same("tailCount()", x.tailCount(), count);
        }
        KiteTailRental y = threeTails();
        Check.same("tailCount() with a rented tail", y.tailCount(), 3);
    }

    private static void length() {
        KiteTailRental x = threeTails();
        Check.same("length(0)", x.length(0), 5);
        Check.same("length(1)", x.length(1), 1);
        Check.same("length(2)", x.length(2), 9);
        for (int wrong : NOT_OF_THREE) {
            Check.fails("length(" + wrong + ")", BOUNDS, () -> x.length(wrong));
        }
    }

    private static void isFree() {
        KiteTailRental x = threeTails();
        Check.yes("isFree(0)", x.isFree(0));
        Check.no("isFree(1)", x.isFree(1));
        Check.yes("isFree(2)", x.isFree(2));
        Scene.rent(x, 0, 1, 0);
        Check.no("isFree(0) rented by committee 0", x.isFree(0));
        Scene.ground(x, 0, 1, 1);
        Check.yes("isFree(1) after the grounding", x.isFree(1));
        Check.no("isFree(0) after the grounding", x.isFree(0));
        for (int wrong : NOT_OF_THREE) {
            Check.fails("isFree(" + wrong + ")", BOUNDS, () -> x.isFree(wrong));
        }
    }

    private static void renterOf() {
        KiteTailRental x = threeTails();
        Check.same("renterOf(1)", x.renterOf(1), 1);
        Scene.rent(x, 0, 1, 2);
        Check.same("renterOf(2)", x.renterOf(2), 0);
        Check.fails("renterOf(0), which is free", NONE, () -> x.renterOf(0));
        for (int wrong : NOT_OF_THREE) {
            Check.fails("renterOf(" + wrong + ")", BOUNDS, () -> x.renterOf(wrong));
        }
    }

    private static void shortestFreeTail() {
        KiteTailRental x = Scene.committees(4, 4);
        Scene.tails(x, 5);
        Check.same("shortestFreeTail() of 5", x.shortestFreeTail(), 0);
        Scene.tails(x, 5);
        Check.same("shortestFreeTail() of 5, 5", x.shortestFreeTail(), 0);
        Scene.tails(x, 3, 4, 3, 9);
        Check.same("shortestFreeTail() of 5, 5, 3, 4, 3, 9", x.shortestFreeTail(), 2);
        Scene.rent(x, 0, 1, 2);
        Check.same("shortestFreeTail() without tail 2", x.shortestFreeTail(), 4);
        Scene.rent(x, 1, 0, 4);
        Check.same("shortestFreeTail() without tail 4", x.shortestFreeTail(), 3);
        Scene.rent(x, 1, 0, 3);
        Scene.rent(x, 1, 0, 0);
        Check.same("shortestFreeTail() of 5 and 9", x.shortestFreeTail(), 1);
        Scene.rent(x, 1, 0, 1);
        Check.same("shortestFreeTail() of 9", x.shortestFreeTail(), 5);
    }

    private static void shortestFreeTailRefuses() {
        KiteTailRental x = Scene.committees(4, 4);
        Check.fails("shortestFreeTail() without tails", NONE, () -> x.shortestFreeTail());
        Scene.tails(x, 5, 2);
        Scene.rent(x, 0, 1, 0);
        Scene.rent(x, 1, 0, 1);
        Check.fails("shortestFreeTail() when all are rented", NONE, () -> x.shortestFreeTail());
        Scene.ground(x, 0, 1, 0);
        Check.same("shortestFreeTail() after a grounding", x.shortestFreeTail(), 0);
    }
}
