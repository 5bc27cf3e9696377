/** The sentences about votes: "Terms", and promises 23, 30 to 32, 39 and 40. */
final class VoteBounds {
    private VoteBounds() {
    }

    static void tests() {
        members();
        voices();
        abstaining();
        byArrears();
        majority();
        renting();
        returning();
        grounding();
        vote();
        voteRefuses();
        sums();
        counts();
    }

    private static void checkSums(String when, KiteTailRental x, int motion, int pro, int contra) {
        Check.same("votesFor " + when, x.votesFor(motion), pro);
        Check.same("votesForByMember " + when, x.votesForByMember(motion), pro);
        Check.same("votesAgainst " + when, x.votesAgainst(motion), contra);
    }

    private static void members() {
        String sentence = "Each committee votes with as many votes as it has members.";
        Check.sentence(0, sentence, "for the motion", () -> {
            for (int size = 1; size <= 9; size++) {
                KiteTailRental x = Scene.committees(1, size);
                checkSums("of " + size, x, x.moveToGround(0, 1), 1 + size, 0);
                checkSums("of the mover of " + size, x, x.moveToGround(1, 1), 1 + size, 0);
            }
        });
        Check.sentence(0, sentence, "against the motion", () -> {
            for (int size = 1; size <= 9; size++) {
                KiteTailRental x = Scene.committees(1, size);
                Scene.owe(x, 1, 1);
                checkSums("of " + size, x, x.moveToGround(0, 1), 1, size);
            }
        });
        Check.sentence(0, sentence, "six committees of nine", () -> {
            KiteTailRental x = Scene.committees(9, 9, 9, 9, 9, 9);
            checkSums("of all", x, x.moveToGround(5, 0), 54, 0);
            for (int committee = 0; committee < 5; committee++) {
                Scene.owe(x, committee, 1);
            }
            checkSums("of one", x, x.motionAt(0), 9, 45);
        });
    }

    private static void voices() {
        String sentence = "The mover and the seconder vote for the motion, also if their kites are grounded.";
        Check.sentence(0, sentence, "a seconder that owes more", () -> {
            KiteTailRental x = Scene.committees(1, 2, 4);
            Scene.owe(x, 1, 1);
            int motion = x.moveToGround(0, 2);
            checkSums("before it seconds", x, motion, 5, 2);
            x.second(1, motion);
            checkSums("when it has seconded", x, motion, 7, 0);
        });
        Check.sentence(0, sentence, "a grounded mover", () -> {
            KiteTailRental x = Scene.committees(1, 2, 4);
            Scene.ground(x, 1, 2, 0);
            checkSums("of a grounded mover", x, x.moveToGround(0, 2), 7, 0);
        });
        Check.sentence(0, sentence, "a grounded seconder", () -> {
            KiteTailRental x = Scene.committees(1, 2, 4);
            Scene.ground(x, 1, 2, 0);
            int motion = x.moveToGround(1, 2);
            checkSums("before it seconds", x, motion, 6, 0);
            x.second(0, motion);
            checkSums("when it has seconded", x, motion, 7, 0);
        });
        Check.sentence(0, sentence, "a grounded seconder that owes more", () -> {
            KiteTailRental x = Scene.committees(1, 2, 4);
            Scene.owe(x, 2, 1);
            Scene.ground(x, 2, 1, 2);
            int motion = x.moveToGround(1, 0);
            x.second(2, motion);
            checkSums("when it has seconded", x, motion, 7, 0);
        });
        Check.sentence(0, sentence, "mover and seconder grounded, and nobody else", () -> {
            KiteTailRental x = Scene.committees(1, 2);
            Scene.ground(x, 0, 1, 0);
            Scene.ground(x, 0, 1, 1);
            int motion = x.moveToGround(1, 0);
            checkSums("before it is seconded", x, motion, 2, 0);
            x.second(0, motion);
            checkSums("when it is seconded", x, motion, 3, 0);
        });
    }

    private static void abstaining() {
        String sentence = "Any other committee whose kite is grounded abstains.";
        Check.sentence(0, sentence, "where it would vote for the motion", () -> {
            KiteTailRental x = Scene.committees(1, 2, 4);
            int motion = x.moveToGround(0, 1);
            checkSums("when all fly", x, motion, 7, 0);
            Scene.ground(x, 0, 1, 2);
            checkSums("when committee 2 is grounded", x, motion, 3, 0);
            x.launch(2);
            checkSums("when committee 2 flies again", x, motion, 7, 0);
        });
        Check.sentence(0, sentence, "where it would vote against the motion", () -> {
            KiteTailRental x = Scene.committees(1, 2, 4);
            Scene.owe(x, 2, 1);
            int motion = x.moveToGround(0, 1);
            checkSums("when all fly", x, motion, 3, 4);
            Scene.ground(x, 2, 1, 2);
            checkSums("when committee 2 is grounded", x, motion, 3, 0);
        });
        Check.sentence(0, sentence, "also the target", () -> {
            KiteTailRental x = Scene.committees(1, 2, 4);
            Scene.ground(x, 0, 1, 2);
            checkSums("on a grounded target", x, x.moveToGround(0, 2), 3, 0);
        });
    }

    private static void byArrears() {
        String sentence = "Any other committee votes for the motion if its arrears are at most those of the"
                + " mover, and against the motion otherwise; this holds for the target of a motion to ground,"
                + " too.";
        Check.sentence(0, sentence, "one coin less, the same and one coin more", () -> {
            KiteTailRental x = Scene.committees(1, 2, 4, 8);
            Scene.owe(x, 0, 5);
            Scene.owe(x, 1, 4);
            Scene.owe(x, 2, 5);
            Scene.owe(x, 3, 6);
            Scene.tails(x, 1);
            checkSums("at 5", x, x.moveToRent(0, 0), 7, 8);
            checkSums("at 4", x, x.moveToRent(1, 0), 2, 13);
            checkSums("at 6", x, x.moveToRent(3, 0), 15, 0);
        });
        Check.sentence(0, sentence, "no arrears on either side", () -> {
            KiteTailRental x = Scene.committees(1, 2);
            Scene.tails(x, 1);
            int motion = x.moveToRent(0, 0);
            checkSums("at 0 and 0", x, motion, 3, 0);
            Scene.owe(x, 1, 1);
            checkSums("at 0 and 1", x, motion, 1, 2);
            x.pay(1, 1);
            checkSums("when it is paid", x, motion, 3, 0);
        });
        Check.sentence(0, sentence, "the target with the same arrears, and with one coin more", () -> {
            KiteTailRental x = Scene.committees(1, 2);
            Scene.owe(x, 0, 3);
            Scene.owe(x, 1, 3);
            int motion = x.moveToGround(0, 1);
            checkSums("at 3 and 3", x, motion, 3, 0);
            Scene.owe(x, 1, 1);
            checkSums("at 3 and 4", x, motion, 1, 2);
            Scene.owe(x, 0, 1);
            checkSums("at 4 and 4", x, motion, 3, 0);
        });
        Check.sentence(0, sentence, "the mover's arrears count, not the seconder's", () -> {
            KiteTailRental x = Scene.committees(1, 2, 4);
            Scene.owe(x, 1, 5);
            Scene.owe(x, 2, 3);
            int motion = x.moveToGround(0, 0);
            x.second(1, motion);
            checkSums("at 0, 5 and 3", x, motion, 3, 4);
        });
    }

    /** Committee 0 owes a coin and flies, so that it votes against committee 1, which moves for tail 0. */
    private static KiteTailRental opposed(int against, int mover, int seconder) {
        KiteTailRental x = Scene.committees(against, mover, seconder);
        Scene.tails(x, 3);
        Scene.owe(x, 0, 1);
        int motion = x.moveToRent(1, 0);
        x.second(2, motion);
        return x;
    }

    private static void majority() {
        String sentence = "A motion is carried if it has more votes for it than against it and its effect is"
                + " possible.";
        Check.sentence(0, sentence, "one vote more", () -> {
            KiteTailRental x = opposed(4, 3, 2);
            checkSums("", x, x.motionAt(0), 5, 4);
            Check.yes("vote", x.vote(x.motionAt(0)));
            Check.same("renterOf(0)", x.renterOf(0), 1);
            Check.same("carriedCount()", x.carriedCount(), 1);
            Check.same("lostCount()", x.lostCount(), 0);
        });
        String lost = "It is lost otherwise.";
        Check.sentence(0, lost, "as many votes against it", () -> checkLost(opposed(5, 3, 2), 5, 5));
        Check.sentence(0, lost, "one vote more against it", () -> checkLost(opposed(6, 3, 2), 5, 6));
        Check.sentence(0, lost, "more votes for it, but it is not possible", () -> {
            KiteTailRental x = Scene.committees(1, 3, 2);
            Scene.tails(x, 3);
            int motion = x.moveToReturn(1, 0);
            x.second(2, motion);
            checkLost(x, 6, 0);
        });
    }

    private static void checkLost(KiteTailRental x, int pro, int contra) {
        checkSums("", x, x.motionAt(0), pro, contra);
        Check.no("vote", x.vote(x.motionAt(0)));
        Check.yes("isFree(0)", x.isFree(0));
        Check.same("carriedCount()", x.carriedCount(), 0);
        Check.same("lostCount()", x.lostCount(), 1);
        Check.same("openMotions()", x.openMotions(), 0);
    }

    /** Holds the vote on a new motion that has all votes for it. */
    private static boolean voted(KiteTailRental x, int motion, int seconder) {
        x.second(seconder, motion);
        Check.same("votesAgainst", x.votesAgainst(motion), 0);
        return x.vote(motion);
    }

    private static void renting() {
        String sentence = "The effect of a motion to rent is that the tail is rented by the mover; it is possible"
                + " if the tail is free and the kite of the mover flies.";
        Check.sentence(0, sentence, "free and flying", () -> {
            KiteTailRental x = Scene.committees(1, 1);
            Scene.tails(x, 3, 3);
            Check.yes("vote", voted(x, x.moveToRent(1, 1), 0));
            Check.same("renterOf(1)", x.renterOf(1), 1);
            Check.yes("isFree(0)", x.isFree(0));
        });
        Check.sentence(0, sentence, "rented by another, and by the mover itself", () -> {
            KiteTailRental x = Scene.committees(1, 1);
            Scene.tails(x, 3);
            Scene.rent(x, 0, 1, 0);
            Check.no("vote of another", voted(x, x.moveToRent(1, 0), 0));
            Check.no("vote of the renter", voted(x, x.moveToRent(0, 0), 1));
            Check.same("renterOf(0)", x.renterOf(0), 0);
        });
        Check.sentence(0, sentence, "the mover is grounded", () -> {
            KiteTailRental x = Scene.committees(1, 1);
            Scene.tails(x, 3);
            Scene.ground(x, 0, 1, 0);
            Check.no("vote of the grounded mover", voted(x, x.moveToRent(0, 0), 1));
            Check.yes("isFree(0)", x.isFree(0));
            Check.yes("vote of the flying mover", voted(x, x.moveToRent(1, 0), 0));
        });
    }

    private static void returning() {
        String sentence = "The effect of a motion to return is that the tail becomes free; it is possible if the"
                + " mover rents the tail.";
        Check.sentence(0, sentence, "rented by the mover", () -> {
            KiteTailRental x = Scene.committees(1, 1);
            Scene.tails(x, 3, 3);
            Scene.rent(x, 1, 0, 0);
            Scene.rent(x, 1, 0, 1);
            Check.yes("vote", voted(x, x.moveToReturn(1, 1), 0));
            Check.yes("isFree(1)", x.isFree(1));
            Check.same("renterOf(0)", x.renterOf(0), 1);
        });
        Check.sentence(0, sentence, "rented by another", () -> {
            KiteTailRental x = Scene.committees(1, 1);
            Scene.tails(x, 3);
            Scene.rent(x, 0, 1, 0);
            Check.no("vote", voted(x, x.moveToReturn(1, 0), 0));
            Check.same("renterOf(0)", x.renterOf(0), 0);
        });
        Check.sentence(0, sentence, "free", () -> {
            KiteTailRental x = Scene.committees(1, 1);
            Scene.tails(x, 3);
            Check.no("vote", voted(x, x.moveToReturn(0, 0), 1));
            Check.yes("isFree(0)", x.isFree(0));
        });
    }

    private static void grounding() {
        String sentence = "The effect of a motion to ground is that the kite of the target is grounded; it is"
                + " possible if that kite flies.";
        Check.sentence(0, sentence, "a flying target", () -> {
            KiteTailRental x = Scene.committees(1, 1, 1);
            Check.yes("vote", voted(x, x.moveToGround(0, 2), 1));
            Check.yes("isFlying(0)", x.isFlying(0));
            Check.yes("isFlying(1)", x.isFlying(1));
            Check.no("isFlying(2)", x.isFlying(2));
        });
        Check.sentence(0, sentence, "a grounded target", () -> {
            KiteTailRental x = Scene.committees(1, 1, 1);
            Scene.ground(x, 0, 1, 2);
            Check.no("vote", voted(x, x.moveToGround(0, 2), 1));
            Check.no("isFlying(2)", x.isFlying(2));
        });
        Check.sentence(0, sentence, "a grounded mover, and the seconder as target", () -> {
            KiteTailRental x = Scene.committees(1, 1, 1);
            Scene.ground(x, 0, 1, 0);
            Check.yes("vote", voted(x, x.moveToGround(0, 1), 1));
            Check.no("isFlying(1)", x.isFlying(1));
        });
    }

    private static void vote() {
        String closed = "Holds the vote on a motion, which is open no longer.";
        Check.sentence(23, closed, "carried", () -> {
            KiteTailRental x = Scene.committees(1, 1);
            Check.yes("vote", voted(x, x.moveToGround(0, 1), 1));
            checkClosed(x);
        });
        Check.sentence(23, closed, "lost", () -> {
            KiteTailRental x = Scene.committees(1, 1);
            Scene.tails(x, 1);
            Check.no("vote", voted(x, x.moveToReturn(0, 0), 1));
            checkClosed(x);
        });
        Check.sentence(23, closed, "first, last and between of eight", () -> {
            for (int motion = 0; motion < 8; motion++) {
                KiteTailRental x = new KiteTailRental();
                ready(x, 8);
                Check.no("vote", x.vote(motion));
                Check.same("openMotions()", x.openMotions(), 7);
                for (int position = 0; position < 7; position++) {
                    Check.same("motionAt", x.motionAt(position), position < motion ? position : position + 1);
                }
            }
        });
        Check.sentence(23, "Returns whether the motion is carried.", () -> {
            KiteTailRental x = Scene.committees(1, 1);
            Scene.tails(x, 1);
            Check.yes("vote that is carried", voted(x, x.moveToRent(0, 0), 1));
            Check.no("vote that is lost", voted(x, x.moveToRent(0, 0), 1));
        });
    }

    private static void checkClosed(KiteTailRental x) {
        Check.same("openMotions()", x.openMotions(), 0);
        Check.fails("moverOf(0)", Refused.NONE, () -> x.moverOf(0));
        Check.fails("vote(0) again", Refused.NONE, () -> x.vote(0));
    }

    /** So many seconded motions to return a free tail. */
    private static void ready(KiteTailRental x, int count) {
        Scene.addCommittees(x, 1, 1);
        Scene.tails(x, 1);
        for (int motion = 0; motion < count; motion++) {
            x.moveToReturn(0, 0);
            x.second(1, motion);
        }
    }

    private static void voteRefuses() {
        Check.sentence(23, "Throws `NoSuchElementException` if no open motion has this id", () -> {
            Refused.noSuchMotion("vote", (x, n) -> x.vote(n));
        });
        String state = "Throws `IllegalStateException` if the motion has no seconder or is tabled";
        Check.sentence(23, state, "no seconder", () -> {
            Refused.on(x -> {
                Refused.twoAndTwo(x);
                x.moveToRent(0, 0);
            }, "vote(0)", Refused.STATE, x -> x.vote(0));
        });
        Check.sentence(23, state, "tabled", () -> {
            Refused.on(x -> {
                ready(x, 1);
                x.gust(1);
            }, "vote(0)", Refused.STATE, x -> x.vote(0));
        });
        Check.sentence(23, state, "no seconder, and tabled", () -> {
            Refused.on(x -> {
                Refused.twoAndTwo(x);
                x.moveToRent(0, 0);
                x.gust(1);
            }, "vote(0)", Refused.STATE, x -> x.vote(0));
        });
        Check.sentence(23, state, "seconded by committee 0 and taken from the table it is held", () -> {
            KiteTailRental x = Scene.committees(1, 1);
            x.moveToGround(1, 0);
            x.gust(1);
            x.second(0, 0);
            x.untable(0);
            Check.yes("vote(0)", x.vote(0));
        });
    }

    private static void sums() {
        String anyTime = "It does not matter whether the motion has a seconder or is tabled.";
        Check.sentence(30, anyTime, "no seconder", () -> {
            KiteTailRental x = Scene.committees(1, 2, 4);
            checkSums("", x, x.moveToGround(0, 1), 7, 0);
        });
        Check.sentence(30, anyTime, "tabled", () -> {
            KiteTailRental x = Scene.committees(1, 2, 4);
            int motion = x.moveToGround(0, 1);
            x.gust(1);
            checkSums("without a seconder", x, motion, 7, 0);
            x.second(1, motion);
            checkSums("with a seconder", x, motion, 7, 0);
        });
        Check.sentence(31, "Returns the same sum as votesFor(), counted vote by vote: for each number from 1 to 9"
                + " the committees that vote for the motion and have at least so many members.", () -> {
            for (int size = 1; size <= 9; size++) {
                KiteTailRental x = Scene.committees(size, 9, 1);
                Scene.owe(x, 0, 1);
                Check.same("votesForByMember of " + size, x.votesForByMember(x.moveToGround(1, 0)), 10);
                Check.same("votesForByMember of the debtor", x.votesForByMember(x.moveToGround(0, 0)),
                        size + 10);
            }
        });
        Check.sentence(32, "Returns the sum of the votes against a motion if the vote was held now.", () -> {
            KiteTailRental x = Scene.committees(9, 9, 9, 9, 9, 9);
            int motion = x.moveToGround(0, 1);
            Check.same("votesAgainst of nobody", x.votesAgainst(motion), 0);
            for (int committee = 1; committee < 6; committee++) {
                Scene.owe(x, committee, 1);
                Check.same("votesAgainst", x.votesAgainst(motion), 9 * committee);
            }
        });
        String none = "Throws `NoSuchElementException` if no open motion has this id";
        Check.sentence(30, none, () -> Refused.noSuchMotion("votesFor", (x, n) -> x.votesFor(n)));
        Check.sentence(31, none, () -> {
            Refused.noSuchMotion("votesForByMember", (x, n) -> x.votesForByMember(n));
        });
        Check.sentence(32, none, () -> Refused.noSuchMotion("votesAgainst", (x, n) -> x.votesAgainst(n)));
    }

    private static void counts() {
        Check.sentence(39, "Returns the number of motions that were carried so far.", () -> {
            KiteTailRental x = Scene.committees(1, 1);
            Scene.tails(x, 1);
            Check.same("carriedCount() of none", x.carriedCount(), 0);
            Scene.rent(x, 0, 1, 0);
            Check.same("carriedCount() to rent", x.carriedCount(), 1);
            Scene.giveBack(x, 0, 1, 0);
            Check.same("carriedCount() to return", x.carriedCount(), 2);
            Scene.ground(x, 0, 1, 0);
            Check.same("carriedCount() to ground", x.carriedCount(), 3);
            x.withdraw(x.moveToGround(0, 1));
            Check.no("vote that is lost", voted(x, x.moveToReturn(0, 0), 1));
            Check.same("carriedCount() of no other", x.carriedCount(), 3);
        });
        Check.sentence(40, "Returns the number of motions that were put to the vote so far and were not carried.",
                () -> {
            KiteTailRental x = Scene.committees(1, 1);
            Scene.tails(x, 1);
            Check.same("lostCount() of none", x.lostCount(), 0);
            Check.no("vote that is lost", voted(x, x.moveToReturn(0, 0), 1));
            Check.same("lostCount() of one", x.lostCount(), 1);
            x.withdraw(x.moveToGround(0, 1));
            Scene.rent(x, 0, 1, 0);
            int refused = x.moveToRent(0, 0);
            Check.fails("vote without a seconder", Refused.STATE, () -> x.vote(refused));
            Check.same("lostCount() of no other", x.lostCount(), 1);
        });
    }
}
