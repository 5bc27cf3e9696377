/** Promises 1, 2, 4 to 11: a new object, and committees. */
public final class CommitteeTest {
    private static final Class<IndexOutOfBoundsException> BOUNDS = IndexOutOfBoundsException.class;
    private static final Class<IllegalArgumentException> ARGUMENT = IllegalArgumentException.class;
    private static final Class<IllegalStateException> STATE = IllegalStateException.class;
    private static final Class<UnsupportedOperationException> UNSUPPORTED =
            UnsupportedOperationException.class;

    public static void main(String[] args) {
        Check.test("1 a new object has no committees and no tails", CommitteeTest::newObject);
        Check.test("1 objects share nothing", CommitteeTest::separateObjects);
        Check.test("2 addCommittee numbers from 0", CommitteeTest::addCommittee);
        Check.test("2 addCommittee refuses", CommitteeTest::addCommitteeRefuses);
        Check.test("4 pay takes coins off the arrears", CommitteeTest::pay);
        Check.test("4 pay does not launch or change the rank by itself", CommitteeTest::payOnlyPays);
        Check.test("4 pay takes 99 coins", CommitteeTest::payMost);
        Check.test("4 pay refuses", CommitteeTest::payRefuses);
        Check.test("5 launch answers the number of flying kites", CommitteeTest::launch);
        Check.test("5 launch refuses", CommitteeTest::launchRefuses);
        Check.test("6 committeeCount", CommitteeTest::committeeCount);
        Check.test("7 members", CommitteeTest::members);
        Check.test("8 arrears", CommitteeTest::arrears);
        Check.test("9 isFlying", CommitteeTest::isFlying);
        Check.test("10 tailLength", CommitteeTest::tailLength);
        Check.test("11 tailsOf", CommitteeTest::tailsOf);
        Check.end();
    }

    private static void newObject() {
        KiteTailRental x = new KiteTailRental();
        Check.same("committeeCount()", x.committeeCount(), 0);
        Check.same("tailCount()", x.tailCount(), 0);
        Check.same("openMotions()", x.openMotions(), 0);
        Check.same("hour()", x.hour(), 0);
        Check.same("carriedCount()", x.carriedCount(), 0);
        Check.same("lostCount()", x.lostCount(), 0);
        Check.same("paidTotal()", x.paidTotal(), 0);
        Check.same("chargedTotal()", x.chargedTotal(), 0);
        Check.yes("isConsistent()", x.isConsistent());
        Check.fails("undo()", STATE, () -> x.undo());
        Check.fails("restore()", STATE, () -> x.restore());
        Check.fails("lineAt(0)", BOUNDS, () -> x.lineAt(0));
    }

    private static void separateObjects() {
        KiteTailRental x = Scene.committees(3);
        Scene.tails(x, 2);
        x.save();
        KiteTailRental y = new KiteTailRental();
        Check.same("committeeCount() of another object", y.committeeCount(), 0);
        Check.same("tailCount() of another object", y.tailCount(), 0);
        Check.fails("restore() of another object", STATE, () -> y.restore());
        Check.fails("undo() of another object", STATE, () -> y.undo());
    }

    private static void addCommittee() {
        KiteTailRental x = new KiteTailRental();
        int[] sizes = {1, 9, 5, 2, 8, 4};
        for (int number = 0; number < sizes.length; number++) {
            Check.same("addCommittee", x.addCommittee(sizes[number]), number);
            Check.yes("isFlying of the new one", x.isFlying(number));
            Check.same("arrears of the new one", x.arrears(number), 0);
            Check.same("members of the new one", x.members(number), sizes[number]);
            Check.same("tailsOf of the new one", x.tailsOf(number), 0);
        }
    }

    private static void addCommitteeRefuses() {
        KiteTailRental x = new KiteTailRental();
        for (int wrong : new int[] {0, 10, -1, Integer.MAX_VALUE, Integer.MIN_VALUE}) {
            Check.fails("addCommittee(" + wrong + ")", ARGUMENT, () -> x.addCommittee(wrong));
        }
        Check.same("committeeCount() after refusals", x.committeeCount(), 0);
        for (int i = 0; i < 6; i++) {
            x.addCommittee(3);
        }
        Check.fails("a 7th committee", STATE, () -> x.addCommittee(3));
        Check.fails("a 7th committee of 0", ARGUMENT, () -> x.addCommittee(0));
        Check.fails("a 7th committee of 10", ARGUMENT, () -> x.addCommittee(10));
        Check.same("committeeCount() when full", x.committeeCount(), 6);
        Check.same("undo() counts no refused call", x.undo(), 5);
    }

    /** Committee 0 flies with 39 coins of tails, and is grounded in arrears of 39. */
    private static KiteTailRental debtor() {
        KiteTailRental x = Scene.committees(2, 7);
        Scene.tails(x, 9, 4);
        Scene.rent(x, 0, 1, 0);
        Scene.rent(x, 0, 1, 1);
        x.pass(3);
        return x;
    }

    private static void pay() {
        KiteTailRental x = debtor();
        Check.same("pay(0, 1)", x.pay(0, 1), 38);
        Check.same("arrears(0)", x.arrears(0), 38);
        Check.same("pay(0, 30)", x.pay(0, 30), 8);
        Check.same("pay(0, 8), all of it", x.pay(0, 8), 0);
        Check.same("arrears(0) in the end", x.arrears(0), 0);
        Check.same("arrears(1) untouched", x.arrears(1), 0);
        Check.same("paidTotal()", x.paidTotal(), 39);
        Check.same("chargedTotal() stays", x.chargedTotal(), 39);
    }

    private static void payOnlyPays() {
        KiteTailRental x = debtor();
        x.pay(0, 39);
        Check.no("isFlying(0) after paying all", x.isFlying(0));
        Check.same("hour()", x.hour(), 3);
        Check.same("committeeCount()", x.committeeCount(), 2);
    }

    private static void payMost() {
        KiteTailRental x = Scene.committees(1, 9);
        Scene.tails(x, 9, 9, 9, 9, 9, 9, 9, 9);
        for (int tail = 0; tail < 8; tail++) {
            Scene.rent(x, 0, 1, tail);
        }
        x.pass(1);
        Check.same("arrears(0) after an hour of 72", x.arrears(0), 72);
        int motion = x.moveToGround(0, 1);
        x.pay(0, 72);
        x.launch(0);
        for (int coin = 0; coin < 99; coin++) {
            x.gust(20);
            x.untable(motion);
        }
        Check.fails("pay(0, 100) of 99", ARGUMENT, () -> x.pay(0, 100));
        Check.same("pay(0, 99) of 99", x.pay(0, 99), 0);
        Check.same("paidTotal()", x.paidTotal(), 171);
    }

    private static void payRefuses() {
        KiteTailRental x = debtor();
        for (int wrong : new int[] {-1, 2, 6, Integer.MAX_VALUE, Integer.MIN_VALUE}) {
            Check.fails("pay(" + wrong + ", 1)", BOUNDS, () -> x.pay(wrong, 1));
            Check.fails("pay(" + wrong + ", 0)", BOUNDS, () -> x.pay(wrong, 0));
        }
        for (int wrong : new int[] {0, 100, -1, Integer.MAX_VALUE, Integer.MIN_VALUE}) {
            Check.fails("pay(0, " + wrong + ")", ARGUMENT, () -> x.pay(0, wrong));
            Check.fails("pay(1, " + wrong + ")", ARGUMENT, () -> x.pay(1, wrong));
        }
        Check.fails("pay(0, 40) of 39", UNSUPPORTED, () -> x.pay(0, 40));
        Check.fails("pay(0, 99) of 39", UNSUPPORTED, () -> x.pay(0, 99));
        Check.fails("pay(1, 1) of 0", UNSUPPORTED, () -> x.pay(1, 1));
        Check.same("arrears(0) after refusals", x.arrears(0), 39);
        Check.same("paidTotal() after refusals", x.paidTotal(), 0);
    }

    private static void launch() {
        KiteTailRental x = Scene.committees(9, 2, 2);
        Scene.ground(x, 0, 1, 2);
        Scene.ground(x, 0, 1, 1);
        Check.same("launch(1)", x.launch(1), 2);
        Check.yes("isFlying(1)", x.isFlying(1));
        Check.no("isFlying(2)", x.isFlying(2));
        Check.same("launch(2)", x.launch(2), 3);
        Scene.ground(x, 0, 1, 0);
        Scene.ground(x, 1, 2, 1);
        Scene.ground(x, 2, 1, 2);
        Check.same("launch(0) as the only one", x.launch(0), 1);
    }

    private static void launchRefuses() {
        KiteTailRental x = debtor();
        for (int wrong : new int[] {-1, 2, 6, Integer.MAX_VALUE, Integer.MIN_VALUE}) {
            Check.fails("launch(" + wrong + ")", BOUNDS, () -> x.launch(wrong));
        }
        Check.fails("launch(1) of a flying kite", STATE, () -> x.launch(1));
        Check.fails("launch(0) with arrears of 39", STATE, () -> x.launch(0));
        x.pay(0, 38);
        Check.fails("launch(0) with arrears of 1", STATE, () -> x.launch(0));
        Check.no("isFlying(0) after refusals", x.isFlying(0));
        x.pay(0, 1);
        Check.same("launch(0) without arrears", x.launch(0), 2);
        Check.fails("launch(0) again", STATE, () -> x.launch(0));
    }

    private static void committeeCount() {
        KiteTailRental x = new KiteTailRental();
        for (int count = 1; count <= 6; count++) {
            x.addCommittee(count);
            Check.same("committeeCount()", x.committeeCount(), count);
        }
        x.addTail(1);
        Check.same("committeeCount() after a tail", x.committeeCount(), 6);
    }

    /** No such committee: below 0, the first number that is not given, and far beyond. */
    private static final int[] NOT_OF_TWO = {-1, 2, 5, 6, Integer.MAX_VALUE, Integer.MIN_VALUE};

    private static void members() {
        KiteTailRental x = Scene.committees(7, 4);
        Check.same("members(0)", x.members(0), 7);
        Check.same("members(1)", x.members(1), 4);
        for (int wrong : NOT_OF_TWO) {
            Check.fails("members(" + wrong + ")", BOUNDS, () -> x.members(wrong));
        }
    }

    private static void arrears() {
        KiteTailRental x = Scene.committees(7, 4);
        Scene.tails(x, 6);
        Scene.rent(x, 1, 0, 0);
        x.pass(2);
        Check.same("arrears(0)", x.arrears(0), 0);
        Check.same("arrears(1)", x.arrears(1), 12);
        for (int wrong : NOT_OF_TWO) {
            Check.fails("arrears(" + wrong + ")", BOUNDS, () -> x.arrears(wrong));
        }
    }

    private static void isFlying() {
        KiteTailRental x = Scene.committees(7, 4);
        Check.yes("isFlying(1) at first", x.isFlying(1));
        Scene.ground(x, 0, 1, 1);
        Check.yes("isFlying(0)", x.isFlying(0));
        Check.no("isFlying(1) grounded", x.isFlying(1));
        x.launch(1);
        Check.yes("isFlying(1) launched", x.isFlying(1));
        for (int wrong : NOT_OF_TWO) {
            Check.fails("isFlying(" + wrong + ")", BOUNDS, () -> x.isFlying(wrong));
        }
    }

    private static void tailLength() {
        KiteTailRental x = Scene.committees(7, 4);
        Scene.tails(x, 6, 9, 1, 3);
        Check.same("tailLength(0) without tails", x.tailLength(0), 0);
        Scene.rent(x, 0, 1, 1);
        Scene.rent(x, 0, 1, 3);
        Scene.rent(x, 1, 0, 2);
        Check.same("tailLength(0)", x.tailLength(0), 12);
        Check.same("tailLength(1)", x.tailLength(1), 1);
        Scene.ground(x, 0, 1, 0);
        Check.same("tailLength(0) grounded", x.tailLength(0), 0);
        Check.same("tailLength(1) still", x.tailLength(1), 1);
        for (int wrong : NOT_OF_TWO) {
            Check.fails("tailLength(" + wrong + ")", BOUNDS, () -> x.tailLength(wrong));
        }
    }

    private static void tailsOf() {
        KiteTailRental x = Scene.committees(7, 4);
        Scene.tails(x, 6, 9, 1, 3);
        Check.same("tailsOf(0) without tails", x.tailsOf(0), 0);
        Scene.rent(x, 0, 1, 1);
        Scene.rent(x, 0, 1, 3);
        Scene.rent(x, 1, 0, 2);
        Check.same("tailsOf(0)", x.tailsOf(0), 2);
        Check.same("tailsOf(1)", x.tailsOf(1), 1);
        Scene.ground(x, 0, 1, 0);
        Check.same("tailsOf(0) grounded", x.tailsOf(0), 0);
        Check.same("tailsOf(1) still", x.tailsOf(1), 1);
        for (int wrong : NOT_OF_TWO) {
            Check.fails("tailsOf(" + wrong + ")", BOUNDS, () -> x.tailsOf(wrong));
        }
    }
}
