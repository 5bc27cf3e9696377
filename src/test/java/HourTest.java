import java.util.NoSuchElementException;

/** Promises 33 to 38, 41 and 42: gusts, hours, ranks and what was paid and charged. */
public final class HourTest {
    private static final Class<IndexOutOfBoundsException> BOUNDS = IndexOutOfBoundsException.class;
    private static final Class<IllegalArgumentException> ARGUMENT = IllegalArgumentException.class;
    private static final Class<NoSuchElementException> NONE = NoSuchElementException.class;

    public static void main(String[] args) {
        Check.test("33 gust tables by the length behind the mover", HourTest::gust);
        Check.test("33 gust leaves tabled motions and grounded movers", HourTest::gustLeaves);
        Check.test("33 gust of 20 and of 0", HourTest::gustEdges);
        Check.test("33 gust refuses", HourTest::gustRefuses);
        Check.test("34 pass charges for tails", HourTest::pass);
        Check.test("34 pass grounds above 30 only", HourTest::passGrounds);
        Check.test("34 pass grounds and counts several", HourTest::passGroundsSeveral);
        Check.test("34 pass charges an hour before it grounds", HourTest::passChargesFirst);
        Check.test("34 pass without anything", HourTest::passAlone);
        Check.test("34 pass refuses", HourTest::passRefuses);
        Check.test("35-36 arrearsAfter stops where the kite is grounded", HourTest::forecasts);
        Check.test("35-36 every rate and every number of hours", HourTest::forecastsByFormula);
        Check.test("35-36 with arrears above 30", HourTest::forecastsAboveLimit);
        Check.test("35-36 change nothing", HourTest::forecastsChangeNothing);
        Check.test("35-36 refuse", HourTest::forecastsRefuse);
        Check.test("37 hour", HourTest::hour);
        Check.test("38 committeeAtRank by arrears, members, number", HourTest::ranks);
        Check.test("38 committeeAtRank refuses", HourTest::ranksRefuse);
        Check.test("41-42 paidTotal and chargedTotal", HourTest::totals);
        Check.end();
    }

    private static void gust() {
        KiteTailRental x = Scene.committees(1, 1, 1);
        Scene.tails(x, 5, 2, 9);
        Scene.rent(x, 0, 1, 0);
        Scene.rent(x, 0, 1, 1);
        Scene.rent(x, 1, 0, 2);
        int ofSeven = x.moveToRent(0, 0);
        int ofNine = x.moveToRent(1, 0);
        int ofNone = x.moveToGround(2, 0);
        int ofSevenToo = x.moveToReturn(0, 0);
        Check.same("gust(0)", x.gust(0), 0);
        Check.same("gust(1)", x.gust(1), 1);
        Check.yes("isTabled without tails", x.isTabled(ofNone));
        Check.no("isTabled of 7", x.isTabled(ofSeven));
        Check.same("gust(7)", x.gust(7), 0);
        Check.no("isTabled of 7 at strength 7", x.isTabled(ofSeven));
        Check.same("gust(8)", x.gust(8), 2);
        Check.yes("isTabled of 7 at strength 8", x.isTabled(ofSeven));
        Check.yes("isTabled of 7, the other", x.isTabled(ofSevenToo));
        Check.no("isTabled of 9 at strength 8", x.isTabled(ofNine));
        x.untable(ofSeven);
        Check.same("gust(10)", x.gust(10), 2);
        Check.yes("isTabled of 9 at strength 10", x.isTabled(ofNine));
        Check.yes("isTabled of 7 again", x.isTabled(ofSeven));
    }

    private static void gustLeaves() {
        KiteTailRental x = Scene.committees(1, 1);
        int first = x.moveToGround(0, 1);
        int other = x.moveToGround(1, 0);
        Check.same("gust(1)", x.gust(1), 2);
        Check.same("gust(20) on tabled motions", x.gust(20), 0);
        Check.yes("isTabled still", x.isTabled(first));
        x.untable(first);
        x.untable(other);
        Scene.ground(x, 1, 0, 0);
        Check.same("gust(20) with a grounded mover", x.gust(20), 1);
        Check.no("isTabled of the grounded mover", x.isTabled(first));
        Check.yes("isTabled of the flying mover", x.isTabled(other));
    }

    private static void gustEdges() {
        KiteTailRental x = Scene.committees(1, 1);
        Scene.tails(x, 9, 9, 1, 1);
        for (int tail = 0; tail < 3; tail++) {
            Scene.rent(x, 0, 1, tail);
        }
        int motion = x.moveToGround(0, 1);
        Check.same("gust(19) against 19", x.gust(19), 0);
        Check.same("gust(20) against 19", x.gust(20), 1);
        x.untable(motion);
        Scene.rent(x, 0, 1, 3);
        Check.same("gust(20) against 20", x.gust(20), 0);
        Check.same("gust(0)", x.gust(0), 0);
        Check.same("gust without motions", new KiteTailRental().gust(20), 0);
    }

    private static void gustRefuses() {
        KiteTailRental x = Scene.committees(1);
        int motion = x.moveToGround(0, 0);
        for (int wrong : new int[] {-1, 21, 22, Integer.MAX_VALUE, Integer.MIN_VALUE}) {
            Check.fails("gust(" + wrong + ")", ARGUMENT, () -> x.gust(wrong));
        }
        Check.no("isTabled after refusals", x.isTabled(motion));
        Check.same("undo() counts no refused call", x.undo(), 1);
    }

    private static void pass() {
        KiteTailRental x = Scene.committees(1, 1, 1);
        Scene.tails(x, 2, 1, 4, 9);
        Scene.rent(x, 0, 1, 0);
        Scene.rent(x, 0, 1, 2);
        Scene.rent(x, 1, 2, 1);
        Check.same("pass(1)", x.pass(1), 0);
        Check.same("arrears(0) after 1", x.arrears(0), 6);
        Check.same("arrears(1) after 1", x.arrears(1), 1);
        Check.same("arrears(2) after 1", x.arrears(2), 0);
        Check.same("pass(3)", x.pass(3), 0);
        Check.same("arrears(0) after 4", x.arrears(0), 24);
        Check.same("arrears(1) after 4", x.arrears(1), 4);
        Check.same("chargedTotal()", x.chargedTotal(), 28);
        Check.same("hour()", x.hour(), 4);
        Check.yes("isFlying(0)", x.isFlying(0));
        Check.same("pass(12)", x.pass(12), 1);
        Check.same("arrears(0) after 16", x.arrears(0), 36);
        Check.same("arrears(1) after 16", x.arrears(1), 16);
    }

    private static void passGrounds() {
        KiteTailRental x = Scene.committees(1, 1);
        Scene.tails(x, 6, 5, 1);
        Scene.rent(x, 0, 1, 0);
        Scene.rent(x, 1, 0, 1);
        Scene.owe(x, 1, 1);
        Check.same("pass(5) to 30 and 26", x.pass(5), 0);
        Check.same("arrears(0)", x.arrears(0), 30);
        Check.yes("isFlying(0) at 30", x.isFlying(0));
        Check.same("pass(1) to 36 and 31", x.pass(1), 2);
        Check.same("arrears(0) grounded", x.arrears(0), 36);
        Check.same("arrears(1) grounded", x.arrears(1), 31);
        Check.no("isFlying(0) at 36", x.isFlying(0));
        Check.no("isFlying(1) at 31", x.isFlying(1));
        Check.yes("isFree(0)", x.isFree(0));
        Check.yes("isFree(1)", x.isFree(1));
        Check.same("pass(12), grounded already", x.pass(12), 0);
        Check.same("arrears(0) stay", x.arrears(0), 36);
        Check.same("hour()", x.hour(), 18);
    }

    private static void passGroundsSeveral() {
        KiteTailRental x = Scene.committees(1, 1, 1, 1);
        Scene.tails(x, 9, 3, 8, 2);
        for (int committee = 0; committee < 4; committee++) {
            Scene.rent(x, committee, (committee + 1) % 4, committee);
        }
        Check.same("pass(12) at rates 9, 3, 8 and 2", x.pass(12), 3);
        Check.same("arrears(0)", x.arrears(0), 36);
        Check.same("arrears(1)", x.arrears(1), 33);
        Check.same("arrears(2)", x.arrears(2), 32);
        Check.same("arrears(3)", x.arrears(3), 24);
        Check.yes("isFlying(3)", x.isFlying(3));
        Check.same("chargedTotal()", x.chargedTotal(), 125);
        Check.same("renterOf(3) still", x.renterOf(3), 3);
    }

    private static void passChargesFirst() {
        KiteTailRental x = Scene.committees(1, 1);
        Scene.tails(x, 7);
        Scene.owe(x, 0, 31);
        Check.yes("isFlying(0) at 31 before an hour", x.isFlying(0));
        Scene.rent(x, 0, 1, 0);
        Check.same("pass(2)", x.pass(2), 1);
        Check.same("arrears(0), charged for one hour", x.arrears(0), 38);
        Check.yes("isFree(0)", x.isFree(0));
        KiteTailRental y = Scene.committees(1, 1);
        Scene.owe(y, 0, 31);
        Scene.owe(y, 1, 30);
        Check.same("pass(1) without tails", y.pass(1), 1);
        Check.no("isFlying(0) at 31", y.isFlying(0));
        Check.yes("isFlying(1) at 30", y.isFlying(1));
        Check.same("arrears(0)", y.arrears(0), 31);
    }

    private static void passAlone() {
        KiteTailRental x = new KiteTailRental();
        Check.same("pass(12) without committees", x.pass(12), 0);
        Check.same("hour()", x.hour(), 12);
        KiteTailRental y = Scene.committees(1);
        Scene.tails(y, 9);
        Check.same("pass(12) with a free tail", y.pass(12), 0);
        Check.same("chargedTotal()", y.chargedTotal(), 0);
    }

    private static void passRefuses() {
        KiteTailRental x = Scene.committees(1);
        for (int wrong : new int[] {0, 13, -1, Integer.MAX_VALUE, Integer.MIN_VALUE}) {
            Check.fails("pass(" + wrong + ")", ARGUMENT, () -> x.pass(wrong));
        }
        Check.same("hour() after refusals", x.hour(), 0);
        Check.same("undo() counts no refused call", x.undo(), 0);
    }

    private static void checkForecast(KiteTailRental x, int committee, int hours, int due) {
        String call = "(" + committee + ", " + hours + ")";
        Check.same("arrearsAfter" + call, x.arrearsAfter(committee, hours), due);
        Check.same("arrearsAfterByRate" + call, x.arrearsAfterByRate(committee, hours), due);
    }

    private static void forecasts() {
        KiteTailRental x = Scene.committees(1, 1, 1);
        Scene.tails(x, 9, 4, 2);
        Scene.rent(x, 0, 1, 0);
        Scene.rent(x, 0, 1, 1);
        Scene.rent(x, 1, 0, 2);
        checkForecast(x, 0, 0, 0);
        checkForecast(x, 0, 1, 13);
        checkForecast(x, 0, 2, 26);
        checkForecast(x, 0, 3, 39);
        checkForecast(x, 0, 4, 39);
        checkForecast(x, 0, 24, 39);
        checkForecast(x, 1, 15, 30);
        checkForecast(x, 1, 16, 32);
        checkForecast(x, 1, 17, 32);
        checkForecast(x, 1, 24, 32);
        checkForecast(x, 2, 0, 0);
        checkForecast(x, 2, 24, 0);
        x.pass(3);
        checkForecast(x, 0, 0, 39);
        checkForecast(x, 0, 24, 39);
        checkForecast(x, 1, 12, 30);
        checkForecast(x, 1, 13, 32);
    }

    private static void forecastsByFormula() {
        for (int rate = 1; rate <= 9; rate++) {
            KiteTailRental x = Scene.committees(1, 1);
            Scene.tails(x, rate);
            Scene.owe(x, 0, rate % 4);
            Scene.rent(x, 0, 1, 0);
            int due = rate % 4;
            for (int hours = 0; hours <= 24; hours++) {
                checkForecast(x, 0, hours, due);
                due += due > 30 ? 0 : rate;
            }
        }
    }

    private static void forecastsAboveLimit() {
        KiteTailRental x = Scene.committees(1, 1);
        Scene.tails(x, 9, 1);
        Scene.owe(x, 0, 30);
        Scene.rent(x, 0, 1, 0);
        checkForecast(x, 0, 0, 30);
        checkForecast(x, 0, 1, 39);
        checkForecast(x, 0, 2, 39);
        Scene.owe(x, 0, 15);
        checkForecast(x, 0, 0, 45);
        checkForecast(x, 0, 1, 54);
        checkForecast(x, 0, 24, 54);
        Scene.owe(x, 1, 31);
        checkForecast(x, 1, 0, 31);
        checkForecast(x, 1, 24, 31);
        Scene.rent(x, 1, 0, 1);
        checkForecast(x, 1, 1, 32);
        checkForecast(x, 1, 2, 32);
        Check.yes("isConsistent()", x.isConsistent());
    }

    private static void forecastsChangeNothing() {
        KiteTailRental x = Scene.committees(1, 1);
        Scene.tails(x, 9);
        Scene.rent(x, 0, 1, 0);
        x.moveToReturn(0, 0);
        String before = Scene.look(x);
        checkForecast(x, 0, 24, 36);
        Check.same("everything after forecasts", Scene.look(x), before);
        Check.same("undo() counts no forecast", x.undo(), 6);
    }

    private static void forecastsRefuse() {
        KiteTailRental x = Scene.committees(1, 1);
        for (int wrong : new int[] {-1, 2, 6, Integer.MAX_VALUE, Integer.MIN_VALUE}) {
            Check.fails("arrearsAfter(" + wrong + ", 1)", BOUNDS, () -> x.arrearsAfter(wrong, 1));
            Check.fails("arrearsAfter(" + wrong + ", 25)", BOUNDS, () -> x.arrearsAfter(wrong, 25));
            Check.fails("arrearsAfterByRate(" + wrong + ", 1)", BOUNDS,
                    () -> x.arrearsAfterByRate(wrong, 1));
            Check.fails("arrearsAfterByRate(" + wrong + ", -1)", BOUNDS,
                    () -> x.arrearsAfterByRate(wrong, -1));
        }
        for (int wrong : new int[] {-1, 25, 26, Integer.MAX_VALUE, Integer.MIN_VALUE}) {
            Check.fails("arrearsAfter(0, " + wrong + ")", ARGUMENT, () -> x.arrearsAfter(0, wrong));
            Check.fails("arrearsAfterByRate(0, " + wrong + ")", ARGUMENT,
                    () -> x.arrearsAfterByRate(0, wrong));
        }
    }

    private static void hour() {
        KiteTailRental x = new KiteTailRental();
        Check.same("hour() at first", x.hour(), 0);
        x.pass(1);
        Check.same("hour() after pass(1)", x.hour(), 1);
        x.pass(12);
        Check.same("hour() after pass(12)", x.hour(), 13);
        x.gust(20);
        Check.same("hour() after a gust", x.hour(), 13);
    }

    private static void checkRanks(String when, KiteTailRental x, int... due) {
        for (int rank = 0; rank < due.length; rank++) {
            Check.same("committeeAtRank(" + rank + ") " + when, x.committeeAtRank(rank), due[rank]);
        }
    }

    private static void ranks() {
        KiteTailRental x = Scene.committees(3, 9, 3, 1, 9, 5);
        checkRanks("by members and numbers", x, 1, 4, 5, 0, 2, 3);
        Scene.owe(x, 3, 1);
        checkRanks("when committee 3 owes 1", x, 3, 1, 4, 5, 0, 2);
        Scene.owe(x, 2, 2);
        checkRanks("when committee 2 owes 2", x, 2, 3, 1, 4, 5, 0);
        Scene.owe(x, 5, 1);
        checkRanks("when committee 5 owes 1", x, 2, 5, 3, 1, 4, 0);
        Scene.owe(x, 0, 2);
        checkRanks("when committee 0 owes 2", x, 0, 2, 5, 3, 1, 4);
        x.pay(0, 2);
        checkRanks("when committee 0 has paid", x, 2, 5, 3, 1, 4, 0);
        Scene.ground(x, 2, 5, 2);
        checkRanks("when committee 2 is grounded", x, 2, 5, 3, 1, 4, 0);
    }

    private static void ranksRefuse() {
        KiteTailRental x = new KiteTailRental();
        Check.fails("committeeAtRank(0) without committees", NONE, () -> x.committeeAtRank(0));
        x.addCommittee(1);
        x.addCommittee(2);
        for (int wrong : new int[] {-1, 2, 5, 6, Integer.MAX_VALUE, Integer.MIN_VALUE}) {
            Check.fails("committeeAtRank(" + wrong + ")", NONE, () -> x.committeeAtRank(wrong));
        }
    }

    private static void totals() {
        KiteTailRental x = Scene.committees(1, 1);
        Scene.tails(x, 9);
        Scene.rent(x, 0, 1, 0);
        Check.same("chargedTotal() at first", x.chargedTotal(), 0);
        x.pass(2);
        Check.same("chargedTotal() after 2 hours", x.chargedTotal(), 18);
        Check.same("paidTotal() before paying", x.paidTotal(), 0);
        x.pay(0, 10);
        Check.same("paidTotal() after 10", x.paidTotal(), 10);
        x.moveToGround(1, 0);
        x.gust(1);
        x.untable(1);
        Check.same("chargedTotal() with an untabled motion", x.chargedTotal(), 19);
        x.pay(1, 1);
        x.pay(0, 8);
        Check.same("paidTotal() of all", x.paidTotal(), 19);
        Check.same("chargedTotal() of all", x.chargedTotal(), 19);
        x.pass(12);
        Check.same("chargedTotal() up to the grounding", x.chargedTotal(), 55);
        Check.same("paidTotal() still", x.paidTotal(), 19);
    }
}
