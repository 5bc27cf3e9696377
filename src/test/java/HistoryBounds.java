import java.util.NoSuchElementException;

/** The sentences about changes and exceptions: "Terms", and promises 54 to 56. */
final class HistoryBounds {
    private static final String[] KINDS = {
        "addCommittee", "addTail", "pay", "launch", "moveToRent", "moveToReturn", "moveToGround", "second",
        "untable", "withdraw", "vote", "gust", "pass", "run"
    };

    private HistoryBounds() {
    }

    static void tests() {
        changes();
        noChanges();
        eightChanges();
        neitherUndoneNorSaved();
        everythingElse();
        exceptions();
        undo();
        save();
        restore();
    }

    /** A successful change of each kind on Scene.ready(). */
    private static void change(KiteTailRental x, int kind) {
        switch (kind) {
            case 0 -> x.addCommittee(1);
            case 1 -> x.addTail(1);
            case 2 -> x.pay(0, 1);
            case 3 -> x.launch(2);
            case 4 -> x.moveToRent(0, 0);
            case 5 -> x.moveToReturn(0, 0);
            case 6 -> x.moveToGround(0, 0);
            case 7 -> x.second(1, 3);
            case 8 -> x.untable(2);
            case 9 -> x.withdraw(3);
            case 10 -> x.vote(4);
            case 11 -> x.gust(20);
            case 12 -> x.pass(12);
            default -> Scene.run(x, "return 00;second 1 5;vote 5;launch 2;pass 12");
        }
    }

    private static void changes() {
        String sentence = "A change is a successful call of addCommittee, addTail, pay, launch, moveToRent,"
                + " moveToReturn, moveToGround, second, untable, withdraw, vote, gust, pass or run.";
        for (int i = 0; i < KINDS.length; i++) {
            int kind = i;
            Check.sentence(0, sentence, KINDS[kind], () -> {
                KiteTailRental x = Scene.ready();
                String before = Scene.look(x);
                change(x, kind);
                Check.no("the same after it", Scene.look(x).equals(before));
                Check.same("undo()", x.undo(), 7);
                Check.same("everything after undo()", Scene.look(x), before);
                Check.same("the next id", Scene.nextId(x), 5);
            });
            Check.sentence(0, sentence, KINDS[kind] + " as the first one after restore()", () -> {
                KiteTailRental x = Scene.ready();
                x.save();
                x.restore();
                change(x, kind);
                Check.same("undo()", x.undo(), 0);
                Check.fails("undo() again", Refused.STATE, () -> x.undo());
            });
        }
        String same = "A successful call is a change even if nothing differs afterwards.";
        Check.sentence(0, same, "a gust that tables nothing", () -> checkSame(x -> x.gust(0)));
        Check.sentence(0, same, "a gust without motions", () -> {
            KiteTailRental x = new KiteTailRental();
            x.gust(20);
            Check.same("undo()", x.undo(), 0);
        });
        Check.sentence(0, same, "a run whose command changes nothing", () -> {
            checkSame(x -> Scene.run(x, "gust 0;gust 0"));
        });
        String one = "A call of run that carries out several commands is one change.";
        Check.sentence(0, one, "eight commands, the most that fit", () -> {
            KiteTailRental x = new KiteTailRental();
            x.pass(1);
            Check.same("run", Scene.run(x, "pass 1;pass 2;pass 3;pass 4;pass 5;pass 6;pass 7;pass 8"), 8);
            Check.same("undo()", x.undo(), 1);
            Check.same("hour()", x.hour(), 1);
            Check.same("undo()", x.undo(), 0);
            Check.same("hour()", x.hour(), 0);
        });
        Check.sentence(0, one, "behind eight other changes it takes one place", () -> {
            KiteTailRental x = new KiteTailRental();
            for (int i = 0; i < 8; i++) {
                x.pass(1);
            }
            Scene.run(x, "pass 12;pass 12;tail 1");
            Check.same("undo() of the run", x.undo(), 7);
            Check.same("hour()", x.hour(), 8);
            Check.same("tailCount()", x.tailCount(), 0);
            for (int left = 6; left >= 0; left--) {
                Check.same("undo()", x.undo(), left);
            }
            Check.same("hour() in the end", x.hour(), 1);
        });
    }

    /** A change that alters nothing takes the place of a change that can be undone. */
    private static void checkSame(Refused.Act change) {
        KiteTailRental x = Scene.committees(1);
        Scene.tails(x, 1);
        x.moveToRent(0, 0);
        String before = Scene.look(x);
        change.on(x);
        Check.same("everything after the change", Scene.look(x), before);
        Check.same("undo() of it", x.undo(), 3);
        Check.same("everything after undo()", Scene.look(x), before);
        Check.same("undo() of the motion", x.undo(), 2);
        Check.same("openMotions()", x.openMotions(), 0);
    }

    private static void noChanges() {
        String sentence = "A change is a successful call of addCommittee, addTail, pay, launch, moveToRent,"
                + " moveToReturn, moveToGround, second, untable, withdraw, vote, gust, pass or run.";
        Check.sentence(0, sentence, "no other call is one", () -> {
            KiteTailRental x = Scene.committees(1);
            x.append('x');
            x.describeCommittee(0);
            x.lineAt(0);
            x.arrearsAfter(0, 24);
            x.arrearsAfterByRate(0, 24);
            x.isConsistent();
            x.save();
            Scene.answers(x);
            Check.same("undo()", x.undo(), 0);
            Check.same("committeeCount()", x.committeeCount(), 0);
        });
        Check.sentence(0, sentence, "a refused call is none", () -> {
            KiteTailRental x = Scene.ready();
            x.save();
            x.restore();
            Check.fails("addCommittee(0)", Refused.ARGUMENT, () -> x.addCommittee(0));
            Check.fails("addTail(0)", Refused.ARGUMENT, () -> x.addTail(0));
            Check.fails("pay(0, 2)", Refused.UNSUPPORTED, () -> x.pay(0, 2));
            Check.fails("launch(0)", Refused.STATE, () -> x.launch(0));
            Check.fails("moveToRent(0, 2)", Refused.BOUNDS, () -> x.moveToRent(0, 2));
            Check.fails("moveToReturn(0, 2)", Refused.BOUNDS, () -> x.moveToReturn(0, 2));
            Check.fails("moveToGround(0, 3)", Refused.BOUNDS, () -> x.moveToGround(0, 3));
            Check.fails("second(0, 4)", Refused.STATE, () -> x.second(0, 4));
            Check.fails("untable(3)", Refused.STATE, () -> x.untable(3));
            Check.fails("withdraw(5)", Refused.NONE, () -> x.withdraw(5));
            Check.fails("vote(3)", Refused.STATE, () -> x.vote(3));
            Check.fails("gust(21)", Refused.ARGUMENT, () -> x.gust(21));
            Check.fails("pass(13)", Refused.ARGUMENT, () -> x.pass(13));
            Check.fails("run of an error", Refused.ARGUMENT, () -> Scene.run(x, "pass 1;"));
            Check.fails("run of a failure", Refused.STATE, () -> Scene.run(x, "pass 1;pass 0"));
            Check.fails("undo()", Refused.STATE, () -> x.undo());
        });
    }

    /** So many hours have passed, one at a time. */
    private static KiteTailRental hours(int count) {
        KiteTailRental x = new KiteTailRental();
        for (int i = 0; i < count; i++) {
            x.pass(1);
        }
        return x;
    }

    private static void eightChanges() {
        String sentence = "The latest 8 changes can be undone, the latest one first.";
        Check.sentence(0, sentence, "of 7, 8, 9, 16, 17 and 25 changes", () -> {
            for (int changes : new int[] {7, 8, 9, 16, 17, 25}) {
                KiteTailRental x = hours(changes);
                int can = Math.min(8, changes);
                for (int undone = 1; undone <= can; undone++) {
                    Check.same("undo() of " + changes, x.undo(), can - undone);
                    Check.same("hour() of " + changes, x.hour(), changes - undone);
                }
                Check.fails("one more undo() of " + changes, Refused.STATE, () -> x.undo());
                Check.same("hour() in the end", x.hour(), changes - can);
            }
        });
        Check.sentence(0, sentence, "changes behind undone ones", () -> {
            KiteTailRental x = hours(8);
            for (int left = 7; left >= 0; left--) {
                Check.same("undo()", x.undo(), left);
            }
            for (int i = 0; i < 9; i++) {
                x.pass(2);
            }
            for (int left = 7; left >= 0; left--) {
                Check.same("undo()", x.undo(), left);
                Check.same("hour()", x.hour(), 2 + 2 * left);
            }
            Check.fails("one more undo()", Refused.STATE, () -> x.undo());
        });
    }

    private static void neitherUndoneNorSaved() {
        String sentence = "The command text, the error position, the failure, and the line are neither undone nor"
                + " saved.";
        Check.sentence(0, sentence, "undo", () -> {
            KiteTailRental x = Scene.committees(1);
            marks(x);
            x.undo();
            checkMarks(x);
        });
        Check.sentence(0, sentence, "save and restore", () -> {
            KiteTailRental x = Scene.committees(1);
            x.save();
            marks(x);
            x.restore();
            checkMarks(x);
        });
        Check.sentence(0, sentence, "undo of a run keeps its text empty", () -> {
            KiteTailRental x = new KiteTailRental();
            Scene.run(x, "pass 1");
            x.undo();
            Check.same("append", x.append('x'), 1);
        });
        Check.sentence(0, sentence, "marks that were there at save are not brought back", () -> {
            KiteTailRental x = Scene.committees(1);
            marks(x);
            x.save();
            Check.fails("run of the text", Refused.ARGUMENT, () -> x.run());
            Check.fails("run of a failure", Refused.STATE, () -> Scene.run(x, "pass 0"));
            x.moveToGround(0, 0);
            x.describeMotion(0);
            x.restore();
            Check.same("the line", Scene.line(x), "#0g0:0");
            Check.same("errorPosition()", x.errorPosition(), 3);
            Check.same("failedCommand()", x.failedCommand(), 0);
            Check.same("failedException()", x.failedException(), 1);
            Check.same("append", x.append('x'), 1);
        });
    }

    /** Leaves a line, an error position of 5, a failure of command 1 with exception 2, and a text. */
    private static void marks(KiteTailRental x) {
        x.describeCommittee(0);
        Check.fails("run of an error", Refused.ARGUMENT, () -> Scene.run(x, "tail x"));
        Check.fails("run of a failure", Refused.STATE, () -> Scene.run(x, "gust 0;launch 0"));
        Scene.type(x, "pas");
    }

    private static void checkMarks(KiteTailRental x) {
        Check.same("the line", Scene.line(x), "0/1^");
        Check.same("errorPosition()", x.errorPosition(), 5);
        Check.same("failedCommand()", x.failedCommand(), 1);
        Check.same("failedException()", x.failedException(), 2);
        Check.same("append", x.append('s'), 4);
        Check.same("run of the rest", Scene.run(x, " 7"), 1);
        Check.same("hour()", x.hour(), 7);
    }

    private static void everythingElse() {
        String sentence = "Everything else is, including the id of the next motion.";
        Check.sentence(0, sentence, "undone, change by change", () -> {
            for (int kind = 0; kind < KINDS.length; kind++) {
                KiteTailRental x = Scene.ready();
                String before = Scene.look(x);
                int made = 0;
                for (int other = kind; other >= Math.max(0, kind - 7); other--) {
                    made += tryChange(x, other) ? 1 : 0;
                }
                for (int i = 0; i < made; i++) {
                    x.undo();
                }
                Check.same("everything after " + made + " undos", Scene.look(x), before);
                Check.same("the next id", Scene.nextId(x), 5);
            }
        });
        Check.sentence(0, sentence, "saved", () -> {
            for (int kind = 0; kind < KINDS.length; kind++) {
                KiteTailRental x = Scene.ready();
                x.save();
                String before = Scene.look(x);
                for (int other = 0; other <= kind; other++) {
                    tryChange(x, other);
                }
                Check.same("restore()", x.restore(), 3);
                Check.same("everything after restore()", Scene.look(x), before);
                Check.same("the next id", Scene.nextId(x), 5);
            }
        });
        Check.sentence(0, sentence, "what is written over in the place of what was undone", () -> {
            KiteTailRental x = Scene.committees(2, 5);
            Scene.tails(x, 3);
            x.moveToGround(0, 1);
            String before = Scene.look(x);
            x.save();
            for (int i = 0; i < 4; i++) {
                x.undo();
            }
            Scene.addCommittees(x, 4, 1);
            Scene.tails(x, 9);
            x.moveToRent(1, 0);
            x.second(0, 0);
            x.gust(1);
            x.restore();
            Check.same("everything after restore()", Scene.look(x), before);
        });
        Check.sentence(0, sentence, "the id, when the motion is open no longer", () -> {
            KiteTailRental x = Scene.committees(1);
            x.save();
            x.withdraw(x.moveToGround(0, 0));
            x.undo();
            x.undo();
            Check.same("the id after undo()", x.moveToGround(0, 0), 0);
            x.withdraw(0);
            x.restore();
            Check.same("the id after restore()", x.moveToGround(0, 0), 0);
        });
    }

    /** Answers whether the change was possible where those before it have altered the scene. */
    private static boolean tryChange(KiteTailRental x, int kind) {
        try {
            change(x, kind);
            return true;
        } catch (IndexOutOfBoundsException | IllegalArgumentException | IllegalStateException
                | NoSuchElementException | UnsupportedOperationException e) {
            return false;
        }
    }

    private static void exceptions() {
        String sentence = "A method that throws an exception changes nothing, except that run clears the command"
                + " text and sets the error position or the failure.";
        Check.sentence(0, sentence, "methods whose calls are changes", () -> {
            refused("addCommittee(10)", Refused.ARGUMENT, x -> x.addCommittee(10));
            refused("addTail(10)", Refused.ARGUMENT, x -> x.addTail(10));
            refused("pay(0, 2) of 1", Refused.UNSUPPORTED, x -> x.pay(0, 2));
            refused("launch(0) of a debtor", Refused.STATE, x -> x.launch(0));
            refused("moveToRent(0, 2)", Refused.BOUNDS, x -> x.moveToRent(0, 2));
            refused("moveToReturn(0, 2)", Refused.BOUNDS, x -> x.moveToReturn(0, 2));
            refused("moveToGround(0, 3)", Refused.BOUNDS, x -> x.moveToGround(0, 3));
            refused("second(2, 4)", Refused.STATE, x -> x.second(2, 4));
            refused("untable(3)", Refused.STATE, x -> x.untable(3));
            refused("withdraw(5)", Refused.NONE, x -> x.withdraw(5));
            refused("vote(2), tabled", Refused.STATE, x -> x.vote(2));
            refused("gust(21)", Refused.ARGUMENT, x -> x.gust(21));
            refused("pass(13)", Refused.ARGUMENT, x -> x.pass(13));
        });
        Check.sentence(0, sentence, "methods that only ask or write the line", () -> {
            refused("members(3)", Refused.BOUNDS, x -> x.members(3));
            refused("renterOf(0)", Refused.NONE, x -> x.renterOf(0));
            refused("seconderOf(3)", Refused.STATE, x -> x.seconderOf(3));
            refused("arrearsAfter(0, 25)", Refused.ARGUMENT, x -> x.arrearsAfter(0, 25));
            refused("describeCommittee(3)", Refused.BOUNDS, x -> x.describeCommittee(3));
            refused("describeMotion(1)", Refused.NONE, x -> x.describeMotion(1));
            refused("lineAt(-1)", Refused.BOUNDS, x -> x.lineAt(-1));
            refused("append of 127", Refused.ARGUMENT, x -> x.append((char) 127));
        });
        Check.sentence(0, sentence, "run clears the text and sets the error position alone", () -> {
            checkRun(IllegalArgumentException.class, "pass 1;tail 1;gust 20;tail ");
        });
        Check.sentence(0, sentence, "run clears the text and sets the failure alone", () -> {
            checkRun(IllegalStateException.class, "pass 1;tail 1;gust 20;tail 0");
        });
    }

    private static void refused(String what, Class<? extends RuntimeException> due, Refused.Act call) {
        Refused.on(Scene::makeReady, what, due, call);
    }

    private static void checkRun(Class<? extends RuntimeException> due, String text) {
        for (int undos = 0; undos <= 8; undos++) {
            KiteTailRental with = Scene.ready();
            KiteTailRental without = Scene.ready();
            with.describeCommittee(0);
            Check.fails("run \"" + text + "\"", due, () -> Scene.run(with, text));
            Check.same("the line after it", Scene.line(with), "0/4^-1");
            Check.same("append after it", with.append('x'), 1);
            for (int i = 0; i < undos; i++) {
                Check.same("undo() after it", with.undo(), without.undo());
            }
            Check.same("everything after it", Scene.look(with), Scene.look(without));
            Check.same("restore() after it", with.restore(), without.restore());
            Check.same("everything restored after it", Scene.look(with), Scene.look(without));
        }
    }

    private static void undo() {
        String latest = "Undoes the latest change that has not been undone.";
        Check.sentence(54, latest, "undo behind undo", () -> {
            KiteTailRental x = Scene.committees(1, 2, 3);
            for (int count = 2; count >= 0; count--) {
                x.undo();
                Check.same("committeeCount()", x.committeeCount(), count);
            }
        });
        Check.sentence(54, latest, "a change behind undo is undone before the older ones", () -> {
            KiteTailRental x = hours(3);
            x.undo();
            x.addTail(4);
            x.undo();
            Check.same("tailCount()", x.tailCount(), 0);
            Check.same("hour()", x.hour(), 2);
            x.undo();
            Check.same("hour()", x.hour(), 1);
        });
        Check.sentence(54, "Returns the number of changes that can still be undone.", () -> {
            Check.same("undo() of 1", hours(1).undo(), 0);
            Check.same("undo() of 2", hours(2).undo(), 1);
            Check.same("undo() of 8", hours(8).undo(), 7);
            Check.same("undo() of 9", hours(9).undo(), 7);
            KiteTailRental x = hours(9);
            x.undo();
            x.undo();
            x.pass(1);
            Check.same("undo() of 9, without 2, and 1", x.undo(), 6);
        });
        String none = "Throws `IllegalStateException` if there is no change to undo";
        Check.sentence(54, none, "nothing was changed", () -> {
            Refused.on(x -> { }, "undo()", Refused.STATE, x -> x.undo());
        });
        Check.sentence(54, none, "all changes are undone", () -> {
            Refused.on(x -> {
                x.pass(1);
                x.undo();
            }, "undo()", Refused.STATE, x -> x.undo());
        });
        Check.sentence(54, none, "the latest 8 of 9 are undone", () -> {
            Refused.on(x -> {
                Scene.addCommittees(x, 1, 2, 3);
                Scene.tails(x, 1, 2, 3, 4, 5, 6);
                for (int i = 0; i < 8; i++) {
                    x.undo();
                }
            }, "undo()", Refused.STATE, x -> x.undo());
        });
        Check.sentence(54, none, "the snapshot was restored", () -> {
            Refused.on(x -> {
                x.pass(1);
                x.restore();
            }, "undo()", Refused.STATE, x -> x.undo());
        });
    }

    private static void save() {
        String replacing = "Saves everything that changes can change as the snapshot, replacing an earlier"
                + " snapshot.";
        Check.sentence(55, replacing, "nothing there yet", () -> {
            KiteTailRental x = new KiteTailRental();
            String before = Scene.look(x);
            Check.same("save()", x.save(), 0);
            x.addCommittee(1);
            x.addTail(1);
            x.moveToGround(0, 0);
            x.restore();
            Check.same("everything restored", Scene.look(x), before);
            Check.same("addCommittee", x.addCommittee(1), 0);
            Check.same("addTail", x.addTail(1), 0);
            Check.same("moveToGround", x.moveToGround(0, 0), 0);
        });
        Check.sentence(55, replacing, "all places taken", () -> {
            KiteTailRental x = new KiteTailRental();
            Refused.full(x);
            String before = Scene.look(x);
            Check.same("save()", x.save(), 8);
            for (int motion = 0; motion < 8; motion++) {
                x.withdraw(motion);
            }
            x.pass(12);
            Check.same("restore()", x.restore(), 8);
            Check.same("everything restored", Scene.look(x), before);
            Check.same("the next id", Scene.nextId(x), 8);
        });
        Check.sentence(55, replacing, "the later of two", () -> {
            KiteTailRental x = hours(3);
            x.save();
            x.pass(4);
            x.save();
            x.pass(5);
            x.restore();
            Check.same("hour()", x.hour(), 7);
        });
        Check.sentence(55, "Returns the number of open motions.", () -> {
            KiteTailRental x = Scene.committees(1);
            for (int count = 0; count <= 8; count++) {
                Check.same("save()", x.save(), count);
                if (count < 8) {
                    x.moveToGround(0, 0);
                }
            }
        });
    }

    private static void restore() {
        Check.sentence(56, "Restores the snapshot, which is kept.", () -> {
            KiteTailRental x = hours(2);
            x.save();
            for (int time = 0; time < 3; time++) {
                x.pass(12);
                x.addCommittee(5);
                x.moveToGround(0, 0);
                Check.same("restore()", x.restore(), 0);
                Check.same("hour()", x.hour(), 2);
                Check.same("committeeCount()", x.committeeCount(), 0);
            }
            Check.same("restore() of what is there", x.restore(), 0);
            Check.same("hour()", x.hour(), 2);
        });
        String forgets = "After the call no change can be undone.";
        Check.sentence(56, forgets, "neither those before save nor those behind it", () -> {
            for (int changes : new int[] {0, 1, 4, 8, 9}) {
                KiteTailRental x = hours(changes);
                x.save();
                for (int i = 0; i < changes; i++) {
                    x.pass(2);
                }
                x.restore();
                Check.fails("undo()", Refused.STATE, () -> x.undo());
                Check.same("hour()", x.hour(), changes);
            }
        });
        Check.sentence(56, forgets, "those behind it can", () -> {
            KiteTailRental x = hours(5);
            x.save();
            x.restore();
            for (int i = 0; i < 9; i++) {
                x.pass(1);
            }
            for (int left = 7; left >= 0; left--) {
                Check.same("undo()", x.undo(), left);
            }
            Check.same("hour()", x.hour(), 6);
            Check.fails("undo()", Refused.STATE, () -> x.undo());
        });
        Check.sentence(56, "Returns the number of open motions.", () -> {
            for (int count = 0; count <= 8; count++) {
                KiteTailRental x = Scene.committees(1);
                for (int motion = 0; motion < count; motion++) {
                    x.moveToGround(0, 0);
                }
                x.save();
                for (int motion = 0; motion < count; motion++) {
                    x.withdraw(motion);
                }
                x.moveToGround(0, 0);
                Check.same("restore()", x.restore(), count);
                Check.same("openMotions()", x.openMotions(), count);
            }
        });
        Check.sentence(56, "Throws `IllegalStateException` if there is no snapshot", () -> {
            Refused.onNew(x -> { }, "restore() of a new object", Refused.STATE, x -> x.restore());
            Refused.onNew(Refused::full, "restore() of a full one", Refused.STATE, x -> x.restore());
            Refused.onNew(Refused::undone, "restore() after undo()", Refused.STATE, x -> x.restore());
            KiteTailRental x = new KiteTailRental();
            x.save();
            Check.same("restore() after save()", x.restore(), 0);
        });
    }
}
