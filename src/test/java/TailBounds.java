/** The sentences about tails: "Terms", and promises 3 and 12 to 16. */
final class TailBounds {
    private TailBounds() {
    }

    static void tests() {
        terms();
        addTail();
        questions();
        renterOf();
        shortestFreeTail();
    }

    private static void eightOf(KiteTailRental x) {
        Scene.tails(x, 9, 1, 8, 2, 7, 3, 6, 4);
    }

    private static void terms() {
        String limit = "There are at most 8 tails, numbered from 0.";
        Check.sentence(0, limit, "eight are taken, numbered 0 to 7", () -> {
            KiteTailRental x = new KiteTailRental();
            for (int number = 0; number < 8; number++) {
                Check.same("addTail", x.addTail(number + 1), number);
            }
            for (int number = 0; number < 8; number++) {
                Check.same("length(" + number + ")", x.length(number), number + 1);
            }
        });
        Check.sentence(0, limit, "the ninth is refused, by a command too", () -> {
            Refused.on(TailBounds::eightOf, "addTail(1)", Refused.STATE, x -> x.addTail(1));
            KiteTailRental x = new KiteTailRental();
            Scene.tails(x, 1, 1, 1, 1, 1, 1, 1);
            Check.same("run", Scene.run(x, "tail 1"), 1);
            Check.fails("run", Refused.STATE, () -> Scene.run(x, "tail 1"));
            Check.same("tailCount()", x.tailCount(), 8);
        });
        Check.sentence(0, "A tail has a length from 1 to 9.", () -> {
            KiteTailRental x = new KiteTailRental();
            Scene.tails(x, 1, 9);
            Check.same("length(0)", x.length(0), 1);
            Check.same("length(1)", x.length(1), 9);
        });
        Check.sentence(0, "A tail is free or is rented by one committee, behind whose kite it flies.", () -> {
            KiteTailRental x = Scene.committees(1, 1);
            Scene.tails(x, 3);
            Check.yes("isFree(0)", x.isFree(0));
            Scene.rent(x, 0, 1, 0);
            Check.no("isFree(0)", x.isFree(0));
            Check.same("tailsOf(0)", x.tailsOf(0), 1);
            int motion = x.moveToRent(1, 0);
            x.second(0, motion);
            Check.no("vote for a second renter", x.vote(motion));
            Check.same("renterOf(0)", x.renterOf(0), 0);
            Check.same("tailsOf(1)", x.tailsOf(1), 0);
        });
    }

    private static void addTail() {
        Check.sentence(3, "Adds a tail, which is free.", () -> {
            KiteTailRental x = Scene.committees(1, 1);
            x.addTail(3);
            Scene.rent(x, 0, 1, 0);
            x.addTail(4);
            Check.yes("isFree(1)", x.isFree(1));
            Check.no("isFree(0)", x.isFree(0));
        });
        Check.sentence(3, "Adds a tail, which is free.", "where an undone one was rented", () -> {
            KiteTailRental x = Scene.committees(1, 1);
            x.addTail(3);
            Scene.rent(x, 0, 1, 0);
            for (int undos = 0; undos < 4; undos++) {
                x.undo();
            }
            Check.same("addTail", x.addTail(4), 0);
            Check.yes("isFree(0)", x.isFree(0));
            Check.same("tailLength(0)", x.tailLength(0), 0);
        });
        Check.sentence(3, "- `length`: the length, 1 to 9", () -> {
            KiteTailRental x = new KiteTailRental();
            Check.fails("addTail(0)", Refused.ARGUMENT, () -> x.addTail(0));
            Check.same("addTail(1)", x.addTail(1), 0);
            Check.same("addTail(9)", x.addTail(9), 1);
            Check.fails("addTail(10)", Refused.ARGUMENT, () -> x.addTail(10));
        });
        Check.sentence(3, "Returns the number of the tail.", () -> {
            KiteTailRental x = new KiteTailRental();
            Check.same("the first", x.addTail(4), 0);
            Scene.tails(x, 4, 4, 4, 4, 4, 4);
            Check.fails("a refused one", Refused.ARGUMENT, () -> x.addTail(0));
            Check.same("the last", x.addTail(4), 7);
        });
        Check.sentence(3, "Throws `IllegalArgumentException` if the length is not from 1 to 9", () -> {
            Refused.each(x -> { }, "addTail", Refused.ARGUMENT, (x, n) -> x.addTail(n),
                    0, 10, -1, 11, Integer.MIN_VALUE, Integer.MAX_VALUE);
        });
        Check.sentence(3, "Throws `IllegalStateException` if there are 8 tails", () -> {
            Refused.each(TailBounds::eightOf, "addTail", Refused.STATE, (x, n) -> x.addTail(n), 1, 5, 9);
            KiteTailRental x = new KiteTailRental();
            eightOf(x);
            x.undo();
            Check.same("addTail where the 8th was undone", x.addTail(1), 7);
        });
        Check.sentence(0, "If several exceptions apply, the exception listed first is thrown.",
                "addTail: the length before the 8 tails", () -> {
            Refused.each(TailBounds::eightOf, "addTail", Refused.ARGUMENT, (x, n) -> x.addTail(n), 0, 10);
        });
    }

    private static void questions() {
        Check.sentence(12, "Returns the number of tails, free and rented ones together.", () -> {
            KiteTailRental x = Scene.committees(1, 1);
            Check.same("tailCount() of none", x.tailCount(), 0);
            eightOf(x);
            Check.same("tailCount() of 8 free ones", x.tailCount(), 8);
            for (int tail = 0; tail < 8; tail++) {
                Scene.rent(x, tail % 2, 1 - tail % 2, tail);
                Check.same("tailCount() with " + (tail + 1) + " rented ones", x.tailCount(), 8);
            }
        });
        Check.sentence(13, "Returns the length.", () -> {
            KiteTailRental x = new KiteTailRental();
            eightOf(x);
            Check.same("length of the first", x.length(0), 9);
            Check.same("length of the second", x.length(1), 1);
            Check.same("length of the last", x.length(7), 4);
        });
        Check.sentence(14, "Returns whether no committee rents the tail.", () -> {
            KiteTailRental x = Scene.committees(1, 1, 1, 1, 1, 1);
            eightOf(x);
            Scene.rent(x, 0, 5, 0);
            Scene.rent(x, 5, 0, 7);
            Check.no("isFree of the first, rented by the first committee", x.isFree(0));
            Check.yes("isFree of the second", x.isFree(1));
            Check.no("isFree of the last, rented by the last committee", x.isFree(7));
        });
        String bounds = "Throws `IndexOutOfBoundsException` if there is no such tail";
        Check.sentence(13, bounds, () -> Refused.noSuchTail("length", (x, n) -> x.length(n)));
        Check.sentence(14, bounds, () -> Refused.noSuchTail("isFree", (x, n) -> x.isFree(n)));
        Check.sentence(15, bounds, () -> Refused.noSuchTail("renterOf", (x, n) -> x.renterOf(n)));
    }

    private static void renterOf() {
        Check.sentence(15, "Returns the committee that rents a tail.", () -> {
            KiteTailRental x = Scene.committees(1, 1, 1, 1, 1, 1);
            eightOf(x);
            Scene.rent(x, 5, 0, 0);
            Scene.rent(x, 0, 5, 7);
            Check.same("renterOf of the first tail", x.renterOf(0), 5);
            Check.same("renterOf of the last tail", x.renterOf(7), 0);
        });
        String free = "Throws `NoSuchElementException` if the tail is free";
        Check.sentence(15, free, "never rented", () -> {
            Refused.each(Refused::twoAndTwo, "renterOf", Refused.NONE, (x, n) -> x.renterOf(n), 0, 1);
        });
        Check.sentence(15, free, "returned", () -> {
            Refused.on(x -> {
                Refused.twoAndTwo(x);
                Scene.rent(x, 0, 1, 1);
                Scene.giveBack(x, 0, 1, 1);
            }, "renterOf(1)", Refused.NONE, x -> x.renterOf(1));
        });
        Check.sentence(15, free, "behind a kite that was grounded", () -> {
            Refused.on(x -> {
                Refused.twoAndTwo(x);
                Scene.rent(x, 0, 1, 1);
                Scene.ground(x, 0, 1, 0);
            }, "renterOf(1)", Refused.NONE, x -> x.renterOf(1));
        });
    }

    private static void shortestFreeTail() {
        Check.sentence(16, "Returns the shortest free tail.", () -> {
            KiteTailRental x = Scene.committees(1, 1);
            eightOf(x);
            int[] due = {1, 3, 5, 7, 6, 4, 2, 0};
            for (int tail : due) {
                Check.same("shortestFreeTail()", x.shortestFreeTail(), tail);
                Scene.rent(x, 0, 1, tail);
            }
        });
        Check.sentence(16, "If several free tails have the least length, the one with the lowest number is"
                + " returned.", () -> {
            KiteTailRental x = Scene.committees(1, 1);
            Scene.tails(x, 9, 3, 3, 4, 3, 9, 3, 3);
            int[] due = {1, 2, 4, 6, 7, 3, 0, 5};
            for (int tail : due) {
                Check.same("shortestFreeTail()", x.shortestFreeTail(), tail);
                Scene.rent(x, 1, 0, tail);
            }
        });
        String none = "Throws `NoSuchElementException` if no tail is free";
        Check.sentence(16, none, "there are no tails", () -> {
            Refused.on(x -> { }, "shortestFreeTail()", Refused.NONE, x -> x.shortestFreeTail());
        });
        Check.sentence(16, none, "all of 1 and all of 8 are rented", () -> {
            for (int count = 1; count <= 8; count += 7) {
                int tails = count;
                Refused.on(x -> rented(x, tails), "shortestFreeTail()", Refused.NONE,
                        x -> x.shortestFreeTail());
            }
        });
        Check.sentence(16, none, "the last one is free again", () -> {
            KiteTailRental x = new KiteTailRental();
            rented(x, 8);
            Scene.giveBack(x, 0, 1, 7);
            Check.same("shortestFreeTail()", x.shortestFreeTail(), 7);
        });
    }

    /** Committee 0 rents all of so many tails. */
    private static void rented(KiteTailRental x, int tails) {
        Scene.addCommittees(x, 1, 1);
        for (int tail = 0; tail < tails; tail++) {
            x.addTail(5);
            Scene.rent(x, 0, 1, tail);
        }
    }
}
