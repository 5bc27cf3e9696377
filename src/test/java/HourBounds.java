/** The sentences about gusts, hours, ranks and totals: "Terms", and promises 33 to 38, 41 and 42. */
final class HourBounds {
    private HourBounds() {
    }

    static void tests() {
        tabling();
        gust();
        order();
        grounding();
        atNoOtherTime();
        pass();
        forecasts();
        forecastsRefuse();
        hour();
        ranks();
        totals();
    }

    /** Committee 0 with tails of such lengths has moved motion 0. */
    private static KiteTailRental moved(int... lengths) {
        KiteTailRental x = Scene.committees(1, 1);
        Scene.tails(x, lengths);
        for (int tail = 0; tail < lengths.length; tail++) {
            x.moveToRent(0, tail);
            x.second(1, tail);
            x.vote(tail);
        }
        x.moveToGround(0, 1);
        return x;
    }

    private static void tabling() {
        String sentence = "When a gust of a strength blows, each open motion that is not tabled becomes tabled if"
                + " the kite of its mover flies and the sum of the lengths of the tails behind that kite is less"
                + " than the strength.";
        Check.sentence(0, sentence, "the strength one below, at and one above the sum", () -> {
            KiteTailRental x = moved(5, 4);
            Check.same("gust(8) against 9", x.gust(8), 0);
            Check.same("gust(9) against 9", x.gust(9), 0);
            Check.no("isTabled(2)", x.isTabled(2));
            Check.same("gust(10) against 9", x.gust(10), 1);
            Check.yes("isTabled(2)", x.isTabled(2));
        });
        Check.sentence(0, sentence, "no tails: 0 is not enough, 1 is", () -> {
            KiteTailRental x = moved();
            Check.same("gust(0)", x.gust(0), 0);
            Check.same("gust(1)", x.gust(1), 1);
        });
        Check.sentence(0, sentence, "19 and 20 behind the kite", () -> {
            KiteTailRental x = moved(9, 9, 1);
            Check.same("gust(19) against 19", x.gust(19), 0);
            Check.same("gust(20) against 19", x.gust(20), 1);
            Check.same("gust(20) against 20", moved(9, 9, 2).gust(20), 0);
        });
        Check.sentence(0, sentence, "the mover is grounded", () -> {
            KiteTailRental x = moved();
            Scene.ground(x, 0, 1, 0);
            Check.same("gust(20)", x.gust(20), 0);
            Check.no("isTabled(0)", x.isTabled(0));
            x.launch(0);
            Check.same("gust(20) when it flies again", x.gust(20), 1);
        });
        Check.sentence(0, sentence, "a tabled motion does not become tabled", () -> {
            KiteTailRental x = moved();
            x.gust(20);
            x.moveToGround(1, 0);
            Check.same("gust(20) with one of two tabled", x.gust(20), 1);
            Check.same("gust(20) with two of two tabled", x.gust(20), 0);
            Check.yes("isTabled(0) still", x.isTabled(0));
        });
        Check.sentence(0, sentence, "the tails of the mover count, of nobody else", () -> {
            KiteTailRental x = moved(9, 9);
            x.moveToGround(1, 0);
            x.second(0, 3);
            Check.same("gust(1)", x.gust(1), 1);
            Check.no("isTabled(2) of the mover with tails", x.isTabled(2));
            Check.yes("isTabled(3) of the mover without", x.isTabled(3));
        });
    }

    private static void gust() {
        Check.sentence(33, "- `strength`: the strength, 0 to 20", () -> {
            KiteTailRental x = moved();
            Check.fails("gust(-1)", Refused.ARGUMENT, () -> x.gust(-1));
            Check.same("gust(0)", x.gust(0), 0);
            Check.same("gust(20)", x.gust(20), 1);
            Check.fails("gust(21)", Refused.ARGUMENT, () -> x.gust(21));
        });
        Check.sentence(33, "Returns the number of motions that become tabled.", () -> {
            for (int count = 0; count <= 8; count++) {
                KiteTailRental x = Scene.committees(1, 1);
                for (int motion = 0; motion < count; motion++) {
                    x.moveToGround(motion % 2, 0);
                }
                Check.same("gust(1) on " + count, x.gust(1), count);
                Check.same("gust(1) again", x.gust(1), 0);
            }
        });
        Check.sentence(33, "Throws `IllegalArgumentException` if the strength is not from 0 to 20", () -> {
            Refused.each(Refused::closed, "gust", Refused.ARGUMENT, (x, n) -> x.gust(n),
                    -1, 21, -2, 22, Integer.MIN_VALUE, Integer.MAX_VALUE);
        });
    }

    /** Committee 0 owes so many coins, and rents a tail of such a length. */
    private static KiteTailRental owing(int coins, int length) {
        KiteTailRental x = Scene.committees(1, 1);
        Scene.tails(x, length);
        Scene.owe(x, 0, coins);
        Scene.rent(x, 0, 1, 0);
        return x;
    }

    private static void order() {
        Check.sentence(0, "When an hour passes, the following happens in this order.", () -> {
            KiteTailRental x = owing(31, 9);
            Check.same("pass(1)", x.pass(1), 1);
            Check.same("arrears(0), charged before it is grounded", x.arrears(0), 40);
            Check.yes("isFree(0)", x.isFree(0));
            KiteTailRental y = owing(22, 9);
            Check.same("pass(1), grounded in the hour of the charge", y.pass(1), 1);
            Check.same("arrears(0)", y.arrears(0), 31);
        });
        String charge = "First, for each committee the sum of the lengths of its tails is added to its arrears.";
        Check.sentence(0, charge, "six committees, with none to three tails", () -> {
            KiteTailRental x = Scene.committees(1, 1, 1, 1, 1, 1);
            Scene.tails(x, 9, 8, 7, 6, 1, 1, 1, 9);
            int[] renters = {0, 5, 5, 3, 4, 4, 4};
            for (int tail = 0; tail < renters.length; tail++) {
                Scene.rent(x, renters[tail], renters[tail] == 0 ? 1 : 0, tail);
            }
            Check.same("pass(1)", x.pass(1), 0);
            int[] due = {9, 0, 0, 6, 3, 15};
            for (int committee = 0; committee < 6; committee++) {
                Check.same("arrears(" + committee + ")", x.arrears(committee), due[committee]);
            }
            Check.same("chargedTotal()", x.chargedTotal(), 33);
        });
        Check.sentence(0, charge, "eight tails of nine", () -> {
            KiteTailRental x = moved(9, 9, 9, 9, 9, 9, 9, 9);
            Check.same("pass(1)", x.pass(1), 1);
            Check.same("arrears(0)", x.arrears(0), 72);
        });
    }

    private static void grounding() {
        String sentence = "Second, the kite of each committee that flies and whose arrears are greater than 30 is"
                + " grounded.";
        Check.sentence(0, sentence, "at 29 and at 30 it flies on, at 31 it is grounded", () -> {
            for (int coins = 28; coins <= 30; coins++) {
                KiteTailRental x = owing(coins, 1);
                boolean flies = coins < 30;
                Check.same("pass(1) to " + (coins + 1), x.pass(1), flies ? 0 : 1);
                Check.yes("isFlying(0) at " + (coins + 1), x.isFlying(0) == flies);
                Check.yes("isFree(0) at " + (coins + 1), x.isFree(0) != flies);
            }
        });
        Check.sentence(0, sentence, "also without tails", () -> {
            KiteTailRental x = Scene.committees(1, 1);
            Scene.owe(x, 0, 30);
            Scene.owe(x, 1, 31);
            Check.same("pass(1)", x.pass(1), 1);
            Check.yes("isFlying(0) at 30", x.isFlying(0));
            Check.no("isFlying(1) at 31", x.isFlying(1));
        });
        Check.sentence(0, sentence, "six kites in one hour", () -> {
            KiteTailRental x = Scene.committees(1, 1, 1, 1, 1, 1);
            for (int committee = 0; committee < 6; committee++) {
                Scene.owe(x, committee, 31);
            }
            Check.same("pass(1)", x.pass(1), 6);
            Check.same("pass(1) again", x.pass(1), 0);
        });
    }

    private static void atNoOtherTime() {
        String sentence = "At no other time is a kite grounded because of arrears.";
        Check.sentence(0, sentence, "not when a coin is added to 30", () -> {
            KiteTailRental x = owing(30, 1);
            Scene.owe(x, 0, 1);
            Check.same("arrears(0)", x.arrears(0), 31);
            Check.yes("isFlying(0)", x.isFlying(0));
            Check.same("renterOf(0)", x.renterOf(0), 0);
        });
        Check.sentence(0, sentence, "not by the other changes", () -> {
            KiteTailRental x = owing(40, 1);
            x.pay(0, 1);
            x.addCommittee(1);
            x.addTail(1);
            Scene.rent(x, 0, 1, 1);
            Scene.giveBack(x, 0, 1, 1);
            Scene.run(x, "gust 20;rent 01");
            x.withdraw(x.motionAt(0));
            x.save();
            x.restore();
            Check.same("arrears(0)", x.arrears(0), 39);
            Check.yes("isFlying(0)", x.isFlying(0));
            Check.same("pass(1)", x.pass(1), 1);
        });
    }

    private static void pass() {
        Check.sentence(34, "- `hours`: the number of hours, 1 to 12", () -> {
            KiteTailRental x = new KiteTailRental();
            Check.fails("pass(0)", Refused.ARGUMENT, () -> x.pass(0));
            x.pass(1);
            Check.same("hour() after pass(1)", x.hour(), 1);
            x.pass(12);
            Check.same("hour() after pass(12)", x.hour(), 13);
            Check.fails("pass(13)", Refused.ARGUMENT, () -> x.pass(13));
        });
        Check.sentence(34, "Returns the number of kites that are grounded by that.", () -> {
            KiteTailRental x = Scene.committees(1, 1, 1, 1, 1, 1);
            Scene.tails(x, 9, 8, 7, 3, 2, 1);
            for (int number = 0; number < 6; number++) {
                Scene.rent(x, number, (number + 1) % 6, number);
            }
            Check.same("pass(3)", x.pass(3), 0);
            Check.same("pass(1) of 9 and 8 an hour", x.pass(1), 2);
            Check.same("pass(12) of 7 and 3 an hour", x.pass(12), 3);
            Check.same("pass(12) of 1 an hour", x.pass(12), 0);
            Check.same("pass(3) of 1 an hour", x.pass(3), 1);
            Check.same("pass(12) of nobody", x.pass(12), 0);
            Check.same("pass(12) without committees", new KiteTailRental().pass(12), 0);
        });
        Check.sentence(34, "Throws `IllegalArgumentException` if the number of hours is not from 1 to 12", () -> {
            Refused.each(Refused::closed, "pass", Refused.ARGUMENT, (x, n) -> x.pass(n),
                    0, 13, -1, 14, Integer.MIN_VALUE, Integer.MAX_VALUE);
        });
    }

    private static void checkForecast(KiteTailRental x, int hours, int due) {
        Check.same("arrearsAfter(0, " + hours + ")", x.arrearsAfter(0, hours), due);
        Check.same("arrearsAfterByRate(0, " + hours + ")", x.arrearsAfterByRate(0, hours), due);
    }

    /** The arrears of committee 0 after a number of hours. */
    private interface Forecast {
        int on(KiteTailRental x, int hours);
    }

    private static void checkHours(String name, Forecast forecast) {
        KiteTailRental x = owing(1, 1);
        Check.fails(name + "(0, -1)", Refused.ARGUMENT, () -> forecast.on(x, -1));
        Check.same(name + "(0, 0)", forecast.on(x, 0), 1);
        Check.same(name + "(0, 1)", forecast.on(x, 1), 2);
        Check.same(name + "(0, 23)", forecast.on(x, 23), 24);
        Check.same(name + "(0, 24)", forecast.on(x, 24), 25);
        Check.fails(name + "(0, 25)", Refused.ARGUMENT, () -> forecast.on(x, 25));
    }

    private static void forecasts() {
        Check.sentence(35, "- `hours`: the number of hours, 0 to 24", () -> {
            checkHours("arrearsAfter", (x, hours) -> x.arrearsAfter(0, hours));
        });
        Check.sentence(36, "- `hours`: the number of hours, 0 to 24", () -> {
            checkHours("arrearsAfterByRate", (x, hours) -> x.arrearsAfterByRate(0, hours));
        });
        String after = "Returns the arrears that a committee would have after a number of hours if only hours"
                + " passed, found by letting them pass on a copy.";
        Check.sentence(35, after, "the charge ends with the hour that goes above 30", () -> {
            for (int length = 1; length <= 9; length++) {
                for (int coins = 0; coins <= 32; coins += 4) {
                    KiteTailRental x = owing(coins, length);
                    int due = coins;
                    for (int hours = 0; hours <= 24; hours++) {
                        Check.same("arrearsAfter", x.arrearsAfter(0, hours), due);
                        due += hours > 0 && due > 30 ? 0 : length;
                    }
                }
            }
        });
        Check.sentence(35, after, "the rental itself stays as it is", () -> {
            KiteTailRental x = owing(25, 9);
            x.moveToReturn(0, 0);
            String before = Scene.look(x);
            Check.same("arrearsAfter(0, 24)", x.arrearsAfter(0, 24), 34);
            Check.same("everything after it", Scene.look(x), before);
            Check.same("undo() of the motion", x.undo(), 7);
            Check.same("arrears(0)", x.arrears(0), 25);
        });
        Check.sentence(36, "Returns the same arrears as arrearsAfter(), found by multiplication from the arrears"
                + " and the tails of the committee alone.", () -> {
            for (int length = 1; length <= 9; length++) {
                for (int coins = 21; coins <= 32; coins++) {
                    KiteTailRental x = owing(coins, length);
                    for (int hours = 0; hours <= 24; hours += hours < 4 ? 1 : 10) {
                        checkForecast(x, hours, x.arrearsAfter(0, hours));
                    }
                }
            }
        });
        Check.sentence(36, "Returns the same arrears as arrearsAfter(), found by multiplication from the arrears"
                + " and the tails of the committee alone.", "at 30, at 31 and above, with tails and without", () -> {
            checkForecast(owing(30, 1), 1, 31);
            checkForecast(owing(30, 1), 24, 31);
            checkForecast(owing(31, 9), 0, 31);
            checkForecast(owing(31, 9), 1, 40);
            checkForecast(owing(31, 9), 24, 40);
            KiteTailRental bare = Scene.committees(1);
            checkForecast(bare, 24, 0);
            Scene.owe(bare, 0, 31);
            checkForecast(bare, 0, 31);
            checkForecast(bare, 24, 31);
            bare.pass(1);
            checkForecast(bare, 24, 31);
        });
    }

    private static void forecastsRefuse() {
        String bounds = "Throws `IndexOutOfBoundsException` if there is no such committee";
        Check.sentence(35, bounds, () -> {
            Refused.noSuchCommittee("arrearsAfter", (x, n) -> x.arrearsAfter(n, 1));
        });
        Check.sentence(36, bounds, () -> {
            Refused.noSuchCommittee("arrearsAfterByRate", (x, n) -> x.arrearsAfterByRate(n, 1));
        });
        String argument = "Throws `IllegalArgumentException` if the number of hours is not from 0 to 24";
        int[] hours = {-1, 25, -2, 26, Integer.MIN_VALUE, Integer.MAX_VALUE};
        Check.sentence(35, argument, () -> {
            Refused.each(Refused::closed, "arrearsAfter", Refused.ARGUMENT,
                    (x, n) -> x.arrearsAfter(0, n), hours);
        });
        Check.sentence(36, argument, () -> {
            Refused.each(Refused::closed, "arrearsAfterByRate", Refused.ARGUMENT,
                    (x, n) -> x.arrearsAfterByRate(0, n), hours);
        });
        String order = "If several exceptions apply, the exception listed first is thrown.";
        Check.sentence(0, order, "arrearsAfter: the committee before the hours", () -> {
            Refused.noSuchCommittee("arrearsAfter of -1", (x, n) -> x.arrearsAfter(n, -1));
            Refused.noSuchCommittee("arrearsAfter of 25", (x, n) -> x.arrearsAfter(n, 25));
        });
        Check.sentence(0, order, "arrearsAfterByRate: the committee before the hours", () -> {
            Refused.noSuchCommittee("arrearsAfterByRate of -1", (x, n) -> x.arrearsAfterByRate(n, -1));
            Refused.noSuchCommittee("arrearsAfterByRate of 25", (x, n) -> x.arrearsAfterByRate(n, 25));
        });
    }

    private static void hour() {
        Check.sentence(37, "Returns the hour, initially 0.", () -> {
            KiteTailRental x = new KiteTailRental();
            Check.same("hour() at first", x.hour(), 0);
            x.pass(1);
            Check.same("hour() after 1", x.hour(), 1);
            Check.fails("pass(0)", Refused.ARGUMENT, () -> x.pass(0));
            Check.same("hour() after a refused call", x.hour(), 1);
        });
    }

    private static void checkRanks(String when, KiteTailRental x, int... due) {
        for (int rank = 0; rank < due.length; rank++) {
            Check.same("committeeAtRank(" + rank + ") " + when, x.committeeAtRank(rank), due[rank]);
        }
    }

    private static void ranks() {
        String sentence = "Returns the committee at a rank: the committee with the greater arrears first; of"
                + " committees with the same arrears the one with more members first; then the one with the lower"
                + " number first.";
        Check.sentence(38, sentence, "one coin more beats any members", () -> {
            KiteTailRental x = Scene.committees(9, 1);
            Scene.owe(x, 1, 1);
            checkRanks("by arrears", x, 1, 0);
            Scene.owe(x, 0, 1);
            checkRanks("by members", x, 0, 1);
        });
        Check.sentence(38, sentence, "one member more beats any number", () -> {
            checkRanks("by members", Scene.committees(8, 9), 1, 0);
        });
        Check.sentence(38, sentence, "the lower number, among six that are the same", () -> {
            checkRanks("by numbers", Scene.committees(5, 5, 5, 5, 5, 5), 0, 1, 2, 3, 4, 5);
        });
        Check.sentence(38, "- `rank`: the rank, from 0", () -> {
            KiteTailRental x = Scene.committees(1, 2, 3, 4, 5, 6);
            checkRanks("of six", x, 5, 4, 3, 2, 1, 0);
            checkRanks("of one", Scene.committees(1), 0);
        });
        Check.sentence(38, "Throws `NoSuchElementException` if there is no such rank", () -> {
            Refused.each(x -> { }, "committeeAtRank of 0", Refused.NONE, (x, n) -> x.committeeAtRank(n),
                    0, 1, -1);
            Refused.each(Refused::twoAndTwo, "committeeAtRank of 2", Refused.NONE,
                    (x, n) -> x.committeeAtRank(n), 2, 3, -1);
            Refused.each(Refused::full, "committeeAtRank of 6", Refused.NONE,
                    (x, n) -> x.committeeAtRank(n), 6, 7, -1, Integer.MIN_VALUE, Integer.MAX_VALUE);
        });
    }

    private static void totals() {
        Check.sentence(41, "Returns the number of coins paid so far.", () -> {
            KiteTailRental x = owing(5, 1);
            Check.same("paidTotal() at first", x.paidTotal(), 0);
            x.pay(0, 1);
            Check.same("paidTotal() after the first coin", x.paidTotal(), 1);
            x.pay(0, 4);
            Check.fails("pay(0, 1) of 0", Refused.UNSUPPORTED, () -> x.pay(0, 1));
            Check.same("paidTotal() of all", x.paidTotal(), 5);
        });
        String charged = "Returns the number of coins charged so far, for tails and for motions taken from the"
                + " table.";
        Check.sentence(42, charged, "for tails, up to the hour that grounds", () -> {
            KiteTailRental x = moved(9, 9);
            Check.same("chargedTotal() at first", x.chargedTotal(), 0);
            x.pass(1);
            Check.same("chargedTotal() after an hour", x.chargedTotal(), 18);
            x.pass(12);
            Check.same("chargedTotal() when it is grounded", x.chargedTotal(), 36);
        });
        Check.sentence(42, charged, "for a motion taken from the table, not when it is withdrawn", () -> {
            KiteTailRental x = moved();
            x.gust(1);
            x.untable(0);
            Check.same("chargedTotal() of one", x.chargedTotal(), 1);
            x.gust(1);
            x.withdraw(0);
            Check.same("chargedTotal() of no other", x.chargedTotal(), 1);
        });
    }
}
