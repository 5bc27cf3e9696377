/** The sentences about the line and the statistics: promises 48 to 52. */
final class LineBounds {
    private LineBounds() {
    }

    static void tests() {
        committee();
        motion();
        lineAt();
        statistics();
    }

    private static void committee() {
        String sentence = "Writes a committee to the line, replacing its previous content: its number, \"/\" and"
                + " its members, \"^\" if its kite flies or \"_\" if it is grounded, \"-\" and its arrears if it"
                + " has some, and for each of its tails in ascending order of their numbers \"~\" and the number"
                + " of the tail.";
        Check.sentence(48, sentence, "the first and the last committee", () -> {
            KiteTailRental x = Scene.committees(1, 5, 5, 5, 5, 9);
            Check.same("committee 0", Scene.committeeLine(x, 0), "4:0/1^");
            Check.same("committee 5", Scene.committeeLine(x, 5), "4:5/9^");
        });
        Check.sentence(48, sentence, "no arrears, one coin, and three digits of them", () -> {
            KiteTailRental x = Scene.committees(1);
            Check.same("without arrears", Scene.committeeLine(x, 0), "4:0/1^");
            Scene.owe(x, 0, 1);
            Check.same("with a coin", Scene.committeeLine(x, 0), "6:0/1^-1");
            Scene.owe(x, 0, 99);
            Check.same("with 100 coins", Scene.committeeLine(x, 0), "8:0/1^-100");
            x.pay(0, 99);
            x.pay(0, 1);
            Check.same("when they are paid", Scene.committeeLine(x, 0), "4:0/1^");
        });
        Check.sentence(48, sentence, "flying and grounded", () -> {
            KiteTailRental x = Scene.committees(1, 1);
            Scene.ground(x, 0, 1, 1);
            Check.same("flying", Scene.committeeLine(x, 0), "4:0/1^");
            Check.same("grounded", Scene.committeeLine(x, 1), "4:1/1_");
        });
        Check.sentence(48, sentence, "eight tails, rented from the last to the first", () -> {
            KiteTailRental x = Scene.committees(9, 9);
            Scene.tails(x, 1, 1, 1, 1, 1, 1, 1, 1);
            String tails = "";
            for (int tail = 7; tail >= 0; tail--) {
                Scene.rent(x, 1, 0, tail);
                tails = "~" + tail + tails;
                Check.same("with tail " + tail, Scene.committeeLine(x, 1),
                        4 + tails.length() + ":1/9^" + tails);
            }
            Check.same("the other committee", Scene.committeeLine(x, 0), "4:0/9^");
        });
        Check.sentence(48, "An example is \"2/5^-12~0~3\".", () -> {
            KiteTailRental x = Scene.committees(1, 1, 5);
            Scene.tails(x, 4, 9, 9, 2);
            Scene.rent(x, 2, 0, 0);
            Scene.rent(x, 2, 0, 3);
            x.pass(2);
            Check.same("the example", Scene.committeeLine(x, 2), "11:2/5^-12~0~3");
        });
        Check.sentence(48, "Returns the length of the line.", () -> {
            KiteTailRental x = Scene.committees(1, 1);
            Check.same("describeCommittee(0)", x.describeCommittee(0), 4);
            Scene.owe(x, 0, 10);
            Check.same("describeCommittee(0) with arrears", x.describeCommittee(0), 7);
        });
        Check.sentence(48, "Throws `IndexOutOfBoundsException` if there is no such committee", () -> {
            Refused.noSuchCommittee("describeCommittee", (x, n) -> x.describeCommittee(n));
        });
    }

    private static void motion() {
        String sentence = "Writes a motion to the line, replacing its previous content: \"#\" and its id, \"r\","
                + " \"t\" or \"g\" for a motion to rent, to return or to ground, the number of the tail or of the"
                + " target, \":\" and the mover, \"+\" and the seconder if it has one, and \"!\" if it is tabled.";
        Check.sentence(49, sentence, "of each kind, with the first and the last numbers", () -> {
            KiteTailRental x = Scene.committees(1, 1, 1, 1, 1, 1);
            Scene.tails(x, 1, 1, 1, 1, 1, 1, 1, 1);
            x.moveToRent(5, 7);
            x.moveToReturn(0, 0);
            x.moveToGround(5, 0);
            Check.same("to rent", Scene.motionLine(x, 0), "6:#0r7:5");
            Check.same("to return", Scene.motionLine(x, 1), "6:#1t0:0");
            Check.same("to ground", Scene.motionLine(x, 2), "6:#2g0:5");
        });
        Check.sentence(49, sentence, "with and without seconder, tabled and not", () -> {
            KiteTailRental x = Scene.committees(1, 1);
            x.moveToGround(1, 1);
            Check.same("new", Scene.motionLine(x, 0), "6:#0g1:1");
            x.gust(1);
            Check.same("tabled", Scene.motionLine(x, 0), "7:#0g1:1!");
            x.second(0, 0);
            Check.same("seconded and tabled", Scene.motionLine(x, 0), "9:#0g1:1+0!");
            x.untable(0);
            Check.same("seconded", Scene.motionLine(x, 0), "8:#0g1:1+0");
        });
        Check.sentence(49, sentence, "an id of one, two and three digits", () -> {
            KiteTailRental x = Scene.committees(1);
            for (int id = 0; id <= 100; id++) {
                x.moveToGround(0, 0);
                if (id == 9 || id == 10 || id == 99 || id == 100) {
                    Check.same("motion " + id, Scene.motionLine(x, id),
                            (5 + ("" + id).length()) + ":#" + id + "g0:0");
                }
                x.withdraw(id);
            }
        });
        Check.sentence(49, "An example is \"#12r3:0+2!\".", () -> {
            KiteTailRental x = Scene.committees(1, 1, 1);
            Scene.tails(x, 1, 1, 1, 1);
            for (int id = 0; id < 12; id++) {
                x.withdraw(x.moveToGround(0, 0));
            }
            x.moveToRent(0, 3);
            x.second(2, 12);
            x.gust(1);
            Check.same("the example", Scene.motionLine(x, 12), "10:#12r3:0+2!");
        });
        Check.sentence(49, "Returns the length of the line.", () -> {
            KiteTailRental x = Scene.committees(1, 1);
            x.moveToGround(0, 1);
            Check.same("describeMotion(0)", x.describeMotion(0), 6);
            x.second(1, 0);
            Check.same("describeMotion(0) with a seconder", x.describeMotion(0), 8);
            x.gust(1);
            Check.same("describeMotion(0) with a seconder, tabled", x.describeMotion(0), 9);
        });
        Check.sentence(49, "Throws `NoSuchElementException` if no open motion has this id", () -> {
            Refused.noSuchMotion("describeMotion", (x, n) -> x.describeMotion(n));
        });
    }

    private static void lineAt() {
        Check.sentence(50, "The line is initially empty.", () -> {
            KiteTailRental x = Scene.committees(1);
            for (int index : new int[] {0, 1, -1}) {
                Check.fails("lineAt(" + index + ")", Refused.BOUNDS, () -> x.lineAt(index));
            }
        });
        Check.sentence(50, "Returns a character of the line.", "the first and the last", () -> {
            KiteTailRental x = Scene.committees(7);
            x.describeCommittee(0);
            Check.same("lineAt(0)", x.lineAt(0), '0');
            Check.same("lineAt(3)", x.lineAt(3), '^');
            x.moveToGround(0, 0);
            x.describeMotion(0);
            Check.same("lineAt(0) of the motion", x.lineAt(0), '#');
            Check.same("lineAt(5) of the motion", x.lineAt(5), '0');
        });
        String bounds = "Throws `IndexOutOfBoundsException` if there is no such index";
        Check.sentence(50, bounds, "the empty line", () -> {
            Refused.each(x -> { }, "lineAt", Refused.BOUNDS, (x, n) -> x.lineAt(n),
                    0, 1, -1, Integer.MIN_VALUE, Integer.MAX_VALUE);
        });
        Check.sentence(50, bounds, "a line of 4 characters", () -> {
            Refused.each(Refused::twoAndTwo, "lineAt", Refused.BOUNDS, (x, n) -> x.lineAt(n),
                    4, 5, -1, Integer.MIN_VALUE, Integer.MAX_VALUE);
        });
        Check.sentence(50, bounds, "a line that replaced a longer one", () -> {
            KiteTailRental x = Scene.committees(1, 1);
            x.moveToGround(0, 1);
            x.describeMotion(0);
            x.describeCommittee(1);
            Check.same("lineAt(3)", x.lineAt(3), '^');
            Check.fails("lineAt(4)", Refused.BOUNDS, () -> x.lineAt(4));
            Check.fails("lineAt(5)", Refused.BOUNDS, () -> x.lineAt(5));
            x.describeMotion(0);
            Check.same("lineAt(5) of a longer one", x.lineAt(5), '0');
            Check.fails("lineAt(6)", Refused.BOUNDS, () -> x.lineAt(6));
        });
    }

    private static void statistics() {
        Check.sentence(51, "Returns the mean arrears of the committees: the sum divided by their number, both"
                + " converted to double.", () -> {
            KiteTailRental x = Scene.committees(1);
            Check.same("meanArrears() of one without arrears", x.meanArrears(), 0.0);
            Scene.addCommittees(x, 1, 1, 1, 1);
            Scene.owe(x, 4, 1);
            Check.same("meanArrears() of 1 among five", x.meanArrears(), 1.0 / 5.0);
            Scene.addCommittees(x, 1);
            Scene.owe(x, 0, 6);
            Check.same("meanArrears() of 7 among six", x.meanArrears(), 7.0 / 6.0);
        });
        Check.sentence(51, "Throws `ArithmeticException` if there are no committees", () -> {
            Refused.on(x -> { }, "meanArrears()", Refused.ARITHMETIC, x -> x.meanArrears());
            Refused.on(x -> Scene.tails(x, 1), "meanArrears()", Refused.ARITHMETIC, x -> x.meanArrears());
            Refused.on(x -> {
                x.addCommittee(1);
                x.undo();
            }, "meanArrears()", Refused.ARITHMETIC, x -> x.meanArrears());
        });
        Check.sentence(52, "Returns the share of the tails that are rented, both numbers converted to float.",
                () -> {
            KiteTailRental x = Scene.committees(1, 1);
            for (int count = 1; count <= 8; count++) {
                x.addTail(9);
                Check.same("rentedShare() of one more", x.rentedShare(), (float) (count - 1) / (float) count);
                Scene.rent(x, count % 2, 1 - count % 2, count - 1);
                Check.same("rentedShare() of all", x.rentedShare(), 1f);
            }
            Scene.ground(x, 0, 1, 0);
            Scene.ground(x, 0, 1, 1);
            Check.same("rentedShare() of none", x.rentedShare(), 0f);
        });
        Check.sentence(52, "Throws `ArithmeticException` if there are no tails", () -> {
            Refused.on(x -> { }, "rentedShare()", Refused.ARITHMETIC, x -> x.rentedShare());
            Refused.on(x -> x.addCommittee(1), "rentedShare()", Refused.ARITHMETIC, x -> x.rentedShare());
            Refused.on(x -> {
                x.addTail(1);
                x.undo();
            }, "rentedShare()", Refused.ARITHMETIC, x -> x.rentedShare());
        });
    }
}
