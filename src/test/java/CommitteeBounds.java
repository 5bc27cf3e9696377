/** The sentences about committees: "Terms", and promises 1, 2 and 4 to 11. */
final class CommitteeBounds {
    private CommitteeBounds() {
    }

    static void tests() {
        terms();
        newObject();
        addCommittee();
        pay();
        launch();
        questions();
        refusals();
    }

    private static void sixOf(KiteTailRental x) {
        Scene.addCommittees(x, 1, 9, 2, 8, 3, 7);
    }

    private static void terms() {
        String limit = "There are at most 6 committees, numbered from 0.";
        Check.sentence(0, limit, "six are taken, numbered 0 to 5", () -> {
            KiteTailRental x = new KiteTailRental();
            for (int number = 0; number < 6; number++) {
                Check.same("addCommittee", x.addCommittee(number + 3), number);
            }
            for (int number = 0; number < 6; number++) {
                Check.same("members(" + number + ")", x.members(number), number + 3);
            }
        });
        Check.sentence(0, limit, "the seventh is refused, by a command too", () -> {
            Refused.on(CommitteeBounds::sixOf, "addCommittee(1)", Refused.STATE, x -> x.addCommittee(1));
            KiteTailRental x = Scene.committees(1, 1, 1, 1, 1);
            Check.same("run", Scene.run(x, "committee 1"), 1);
            Check.fails("run", Refused.STATE, () -> Scene.run(x, "committee 1"));
            Check.same("committeeCount()", x.committeeCount(), 6);
        });
        Check.sentence(0, "Each committee has 1 to 9 members, arrears in coins, and a kite that flies or is"
                + " grounded.", () -> {
            KiteTailRental x = Scene.committees(1, 9);
            Check.same("members(0)", x.members(0), 1);
            Check.same("members(1)", x.members(1), 9);
            Check.same("arrears(0)", x.arrears(0), 0);
            Check.yes("isFlying(0)", x.isFlying(0));
            Scene.owe(x, 0, 1);
            Scene.ground(x, 0, 1, 0);
            Check.same("arrears(0)", x.arrears(0), 1);
            Check.no("isFlying(0)", x.isFlying(0));
        });
        String freed = "When the kite of a committee is grounded, all its tails become free.";
        Check.sentence(0, freed, "by a vote", () -> {
            for (int rented = 0; rented <= 8; rented++) {
                KiteTailRental x = renting(rented);
                Scene.ground(x, 1, 0, 0);
                checkFreed(x, rented);
            }
        });
        Check.sentence(0, freed, "by arrears", () -> {
            for (int rented = 0; rented <= 8; rented++) {
                KiteTailRental x = renting(rented);
                Scene.owe(x, 0, 31);
                Check.same("pass(1)", x.pass(1), 1);
                checkFreed(x, rented);
            }
        });
    }

    /** Committee 0 rents the first tails of eight, committee 1 the others, all of length 1. */
    private static KiteTailRental renting(int rented) {
        KiteTailRental x = Scene.committees(1, 1);
        Scene.tails(x, 1, 1, 1, 1, 1, 1, 1, 1);
        for (int tail = 0; tail < 8; tail++) {
            int mover = tail < rented ? 0 : 1;
            Scene.rent(x, mover, 1 - mover, tail);
        }
        return x;
    }

    private static void checkFreed(KiteTailRental x, int rented) {
        Check.no("isFlying(0)", x.isFlying(0));
        Check.same("tailsOf(0)", x.tailsOf(0), 0);
        Check.same("tailsOf(1)", x.tailsOf(1), 8 - rented);
        for (int tail = 0; tail < 8; tail++) {
            Check.yes("isFree(" + tail + ") of " + rented, x.isFree(tail) == (tail < rented));
        }
    }

    private static void newObject() {
        String sentence = "Creates a rental system without committees and tails.";
        Check.sentence(1, sentence, "nothing is counted", () -> {
            KiteTailRental x = new KiteTailRental();
            long[] counts = {x.committeeCount(), x.tailCount(), x.openMotions(), x.hour(),
                x.carriedCount(), x.lostCount(), x.paidTotal(), x.chargedTotal(), x.save()};
            for (long count : counts) {
                Check.same("a count", count, 0);
            }
            Check.yes("isConsistent()", x.isConsistent());
        });
        Check.sentence(1, sentence, "there is no committee 0, no tail 0 and no motion 0", () -> {
            KiteTailRental x = new KiteTailRental();
            Check.fails("members(0)", Refused.BOUNDS, () -> x.members(0));
            Check.fails("length(0)", Refused.BOUNDS, () -> x.length(0));
            Check.fails("moverOf(0)", Refused.NONE, () -> x.moverOf(0));
            Check.fails("motionAt(0)", Refused.BOUNDS, () -> x.motionAt(0));
            Check.fails("committeeAtRank(0)", Refused.NONE, () -> x.committeeAtRank(0));
        });
        Check.sentence(1, sentence, "the first of each gets the number 0", () -> {
            KiteTailRental x = new KiteTailRental();
            Check.same("addCommittee(1)", x.addCommittee(1), 0);
            Check.same("addTail(1)", x.addTail(1), 0);
            Check.same("moveToRent(0, 0)", x.moveToRent(0, 0), 0);
        });
    }

    private static void addCommittee() {
        Check.sentence(2, "Adds a committee.", () -> {
            KiteTailRental x = new KiteTailRental();
            for (int count = 1; count <= 6; count++) {
                x.addCommittee(5);
                Check.same("committeeCount()", x.committeeCount(), count);
            }
        });
        Check.sentence(2, "Its kite flies, and it has no arrears.", () -> {
            KiteTailRental x = Scene.committees(2, 2);
            Scene.tails(x, 9);
            Scene.rent(x, 0, 1, 0);
            x.pass(4);
            x.addCommittee(2);
            Check.no("isFlying(0)", x.isFlying(0));
            Check.yes("isFlying(2)", x.isFlying(2));
            Check.same("arrears(0)", x.arrears(0), 36);
            Check.same("arrears(2)", x.arrears(2), 0);
        });
        Check.sentence(2, "Its kite flies, and it has no arrears.", "where an undone one was grounded", () -> {
            KiteTailRental x = Scene.committees(2, 2);
            Scene.owe(x, 1, 1);
            Scene.ground(x, 0, 1, 1);
            // owe and ground are 7 changes, of moving, tabling, taking up and voting.
            for (int undos = 0; undos < 8; undos++) {
                x.undo();
            }
            Check.same("committeeCount()", x.committeeCount(), 1);
            x.addCommittee(2);
            Check.yes("isFlying(1)", x.isFlying(1));
            Check.same("arrears(1)", x.arrears(1), 0);
        });
        Check.sentence(2, "Its kite flies, and it has no arrears.", "where one was in debt before restore()",
                () -> {
            KiteTailRental x = new KiteTailRental();
            x.save();
            Scene.addCommittees(x, 2, 2);
            Scene.owe(x, 1, 1);
            Scene.ground(x, 0, 1, 1);
            x.restore();
            Scene.addCommittees(x, 2, 2);
            Check.yes("isFlying(1)", x.isFlying(1));
            Check.same("arrears(1)", x.arrears(1), 0);
        });
        Check.sentence(2, "- `members`: the number of members, 1 to 9", () -> {
            KiteTailRental x = new KiteTailRental();
            Check.fails("addCommittee(0)", Refused.ARGUMENT, () -> x.addCommittee(0));
            Check.same("addCommittee(1)", x.addCommittee(1), 0);
            Check.same("addCommittee(9)", x.addCommittee(9), 1);
            Check.fails("addCommittee(10)", Refused.ARGUMENT, () -> x.addCommittee(10));
        });
        Check.sentence(2, "Returns the number of the committee.", () -> {
            KiteTailRental x = new KiteTailRental();
            Check.same("the first", x.addCommittee(4), 0);
            Scene.addCommittees(x, 4, 4, 4, 4);
            Check.fails("a refused one", Refused.ARGUMENT, () -> x.addCommittee(0));
            Check.same("the last", x.addCommittee(4), 5);
        });
        Check.sentence(2, "Throws `IllegalArgumentException` if the number of members is not from 1 to 9",
                () -> {
            Refused.each(x -> { }, "addCommittee", Refused.ARGUMENT, (x, n) -> x.addCommittee(n),
                    0, 10, -1, 11, Integer.MIN_VALUE, Integer.MAX_VALUE);
        });
        Check.sentence(2, "Throws `IllegalStateException` if there are 6 committees", () -> {
            Refused.each(CommitteeBounds::sixOf, "addCommittee", Refused.STATE, (x, n) -> x.addCommittee(n),
                    1, 5, 9);
            KiteTailRental x = Scene.committees(1, 1, 1, 1, 1, 1);
            x.undo();
            Check.same("addCommittee where the 6th was undone", x.addCommittee(1), 5);
        });
        Check.sentence(0, "If several exceptions apply, the exception listed first is thrown.",
                "addCommittee: the number of members before the 6 committees", () -> {
            Refused.each(CommitteeBounds::sixOf, "addCommittee", Refused.ARGUMENT,
                    (x, n) -> x.addCommittee(n), 0, 10);
        });
    }

    /** Committee 0 has so many coins of arrears, committee 1 none. */
    private static void owing(KiteTailRental x, int coins) {
        Scene.addCommittees(x, 1, 1);
        Scene.owe(x, 0, coins);
    }

    private static void pay() {
        String sentence = "- `coins`: the number of coins, 1 to 99";
        Check.sentence(4, sentence, "the smallest", () -> {
            KiteTailRental x = new KiteTailRental();
            owing(x, 2);
            Check.fails("pay(0, 0)", Refused.ARGUMENT, () -> x.pay(0, 0));
            Check.same("pay(0, 1)", x.pay(0, 1), 1);
        });
        Check.sentence(4, sentence, "the greatest", () -> {
            KiteTailRental x = new KiteTailRental();
            owing(x, 100);
            Check.fails("pay(0, 100)", Refused.ARGUMENT, () -> x.pay(0, 100));
            Check.same("pay(0, 99)", x.pay(0, 99), 1);
        });
        Check.sentence(4, "Returns the arrears of the committee after the call.", () -> {
            KiteTailRental x = new KiteTailRental();
            owing(x, 3);
            Check.same("pay of some", x.pay(0, 2), 1);
            Check.same("pay of the last coin", x.pay(0, 1), 0);
            Check.same("arrears(0)", x.arrears(0), 0);
        });
        Check.sentence(4, "Throws `IndexOutOfBoundsException` if there is no such committee", () -> {
            Refused.noSuchCommittee("pay", (x, n) -> x.pay(n, 1));
        });
        Check.sentence(4, "Throws `IllegalArgumentException` if the number of coins is not from 1 to 99",
                () -> {
            Refused.each(x -> owing(x, 101), "pay of 101", Refused.ARGUMENT, (x, n) -> x.pay(0, n),
                    0, 100);
            Refused.each(x -> owing(x, 0), "pay of 0", Refused.ARGUMENT, (x, n) -> x.pay(1, n),
                    0, -1, 100, 101, Integer.MIN_VALUE, Integer.MAX_VALUE);
        });
        Check.sentence(4, "Throws `UnsupportedOperationException` if the number of coins is greater than the"
                + " arrears", () -> {
            Refused.each(x -> owing(x, 12), "pay of 12", Refused.UNSUPPORTED, (x, n) -> x.pay(0, n),
                    13, 14, 99);
            Refused.each(x -> owing(x, 0), "pay of 0", Refused.UNSUPPORTED, (x, n) -> x.pay(1, n), 1, 99);
            KiteTailRental x = new KiteTailRental();
            owing(x, 12);
            Check.same("pay(0, 12) of 12", x.pay(0, 12), 0);
        });
        String order = "If several exceptions apply, the exception listed first is thrown.";
        Check.sentence(0, order, "pay: the committee before the coins", () -> {
            Refused.noSuchCommittee("pay of 0", (x, n) -> x.pay(n, 0));
            Refused.noSuchCommittee("pay of 100", (x, n) -> x.pay(n, 100));
        });
        Check.sentence(0, order, "pay: the limit of coins before the arrears", () -> {
            Refused.on(x -> owing(x, 99), "pay(0, 100) of 99", Refused.ARGUMENT, x -> x.pay(0, 100));
        });
    }

    /** The kite of committee 0 is grounded, and it has arrears of so many coins. */
    private static void grounded(KiteTailRental x, int coins) {
        owing(x, coins);
        Scene.ground(x, 0, 1, 0);
    }

    private static void launch() {
        Check.sentence(5, "Lets the kite of a committee fly again.", () -> {
            KiteTailRental x = new KiteTailRental();
            grounded(x, 0);
            x.launch(0);
            Check.yes("isFlying(0)", x.isFlying(0));
            Check.same("tailsOf(0)", x.tailsOf(0), 0);
        });
        Check.sentence(5, "Returns the number of flying kites after the call.", () -> {
            KiteTailRental x = Scene.committees(1, 1, 1, 1, 1, 1);
            for (int target = 0; target < 6; target++) {
                Scene.ground(x, 0, 1, target);
            }
            for (int number = 5; number >= 0; number--) {
                Check.same("launch(" + number + ")", x.launch(number), 6 - number);
            }
        });
        Check.sentence(5, "Throws `IndexOutOfBoundsException` if there is no such committee", () -> {
            Refused.noSuchCommittee("launch", (x, n) -> x.launch(n));
        });
        String state = "Throws `IllegalStateException` if the kite flies, or the committee has arrears";
        Check.sentence(5, state, "it flies, without arrears", () -> {
            Refused.on(x -> owing(x, 0), "launch(0)", Refused.STATE, x -> x.launch(0));
        });
        Check.sentence(5, state, "it flies, with arrears", () -> {
            Refused.on(x -> owing(x, 1), "launch(0)", Refused.STATE, x -> x.launch(0));
        });
        Check.sentence(5, state, "grounded, with arrears of 1 and of 31", () -> {
            Refused.on(x -> grounded(x, 1), "launch(0) at 1", Refused.STATE, x -> x.launch(0));
            Refused.on(x -> grounded(x, 31), "launch(0) at 31", Refused.STATE, x -> x.launch(0));
        });
        Check.sentence(5, state, "grounded, without arrears it is taken", () -> {
            KiteTailRental x = new KiteTailRental();
            grounded(x, 1);
            x.pay(0, 1);
            Check.same("launch(0)", x.launch(0), 2);
            Check.fails("launch(0) again", Refused.STATE, () -> x.launch(0));
        });
    }

    private static void questions() {
        Check.sentence(6, "Returns the number of committees.", () -> {
            KiteTailRental x = new KiteTailRental();
            Check.same("committeeCount() of none", x.committeeCount(), 0);
            sixOf(x);
            Check.same("committeeCount() of six", x.committeeCount(), 6);
        });
        Check.sentence(7, "Returns the number of members.", () -> {
            KiteTailRental x = Scene.committees(1, 9, 2, 8, 3, 7);
            Check.same("members of the first", x.members(0), 1);
            Check.same("members of the second", x.members(1), 9);
            Check.same("members of the last", x.members(5), 7);
        });
        Check.sentence(8, "Returns the arrears in coins.", () -> {
            KiteTailRental x = Scene.committees(1, 1, 1, 1, 1, 1);
            Scene.owe(x, 5, 101);
            Check.same("arrears of the first", x.arrears(0), 0);
            Check.same("arrears of the last", x.arrears(5), 101);
        });
        Check.sentence(9, "Returns true if it flies, false if it is grounded.", () -> {
            KiteTailRental x = Scene.committees(1, 1, 1, 1, 1, 1);
            Scene.ground(x, 0, 1, 5);
            Check.yes("isFlying of the first", x.isFlying(0));
            Check.no("isFlying of the last", x.isFlying(5));
        });
        Check.sentence(10, "Returns the sum, 0 without tails.", () -> {
            KiteTailRental x = Scene.committees(1, 1, 1, 1, 1, 1);
            Scene.tails(x, 9, 9, 9, 9, 9, 9, 9, 9);
            Check.same("tailLength(0) without tails", x.tailLength(0), 0);
            for (int tail = 0; tail < 8; tail++) {
                Scene.rent(x, 5, 0, tail);
                Check.same("tailLength(5)", x.tailLength(5), 9 * tail + 9);
            }
            Check.same("tailLength(0) beside", x.tailLength(0), 0);
        });
        Check.sentence(11, "Returns the number of tails.", () -> {
            KiteTailRental x = Scene.committees(1, 1, 1, 1, 1, 1);
            Scene.tails(x, 9, 9, 9, 9, 9, 9, 9, 9);
            Check.same("tailsOf(0) without tails", x.tailsOf(0), 0);
            for (int tail = 0; tail < 8; tail++) {
                Scene.rent(x, 5, 0, tail);
                Check.same("tailsOf(5)", x.tailsOf(5), tail + 1);
            }
            Check.same("tailsOf(0) beside", x.tailsOf(0), 0);
        });
    }

    private static void refusals() {
        String sentence = "Throws `IndexOutOfBoundsException` if there is no such committee";
        Check.sentence(7, sentence, () -> Refused.noSuchCommittee("members", (x, n) -> x.members(n)));
        Check.sentence(8, sentence, () -> Refused.noSuchCommittee("arrears", (x, n) -> x.arrears(n)));
        Check.sentence(9, sentence, () -> Refused.noSuchCommittee("isFlying", (x, n) -> x.isFlying(n)));
        Check.sentence(10, sentence, () -> Refused.noSuchCommittee("tailLength", (x, n) -> x.tailLength(n)));
        Check.sentence(11, sentence, () -> Refused.noSuchCommittee("tailsOf", (x, n) -> x.tailsOf(n)));
    }
}
