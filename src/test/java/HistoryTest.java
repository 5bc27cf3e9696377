/** Promises 54 to 56: undo, save and restore. */
public final class HistoryTest {
    private static final Class<IllegalStateException> STATE = IllegalStateException.class;

    public static void main(String[] args) {
        Check.test("54 undo takes back each kind of change", HistoryTest::everyChange);
        Check.test("54 undo answers how many are left", HistoryTest::countdown);
        Check.test("54 undo takes back the latest 8 changes", HistoryTest::latestEight);
        Check.test("54 changes after undo", HistoryTest::changesAfterUndo);
        Check.test("54 a change that differs in nothing is a change", HistoryTest::emptyChange);
        Check.test("54 refused calls and questions are no changes", HistoryTest::noChange);
        Check.test("54 undo gives back the id of the next motion", HistoryTest::nextId);
        Check.test("55 save answers the number of open motions", HistoryTest::save);
        Check.test("55 save replaces the earlier snapshot", HistoryTest::saveReplaces);
        Check.test("55 save is no change, and undo does not undo it", HistoryTest::saveIsNoChange);
        Check.test("56 restore brings back everything", HistoryTest::restore);
        Check.test("56 restore keeps the snapshot", HistoryTest::restoreKeeps);
        Check.test("56 after restore no change can be undone", HistoryTest::restoreForgets);
        Check.test("56 restore refuses", HistoryTest::restoreRefuses);
        Check.end();
    }

    private static KiteTailRental busy() {
        KiteTailRental x = Scene.committees(4, 9, 1);
        Scene.tails(x, 9, 1, 5);
        Scene.rent(x, 0, 1, 0);
        Scene.rent(x, 1, 0, 2);
        x.pass(2);
        Scene.ground(x, 0, 1, 2);
        x.moveToReturn(0, 0);
        x.moveToGround(2, 1);
        x.moveToRent(1, 1);
        x.second(1, 3);
        x.gust(6);
        return x;
    }

    private static void checkUndone(String what, Check.Call change, KiteTailRental x) {
        String before = Scene.look(x);
        change.make();
        Check.same("undo() of " + what, x.undo(), 7);
        Check.same("everything after undo of " + what, Scene.look(x), before);
    }

    /** A new object each time keeps the number of calls low. */
    private static void everyChange() {
        KiteTailRental[] x = new KiteTailRental[15];
        for (int i = 0; i < x.length; i++) {
            x[i] = busy();
        }
        checkUndone("addCommittee", () -> x[0].addCommittee(3), x[0]);
        checkUndone("addTail", () -> x[1].addTail(3), x[1]);
        checkUndone("pay", () -> x[2].pay(0, 7), x[2]);
        checkUndone("launch", () -> x[3].launch(2), x[3]);
        checkUndone("moveToRent", () -> x[4].moveToRent(1, 1), x[4]);
        checkUndone("moveToReturn", () -> x[5].moveToReturn(1, 1), x[5]);
        checkUndone("moveToGround", () -> x[6].moveToGround(1, 1), x[6]);
        checkUndone("second", () -> x[7].second(0, 4), x[7]);
        checkUndone("untable", () -> x[8].untable(5), x[8]);
        checkUndone("withdraw", () -> x[9].withdraw(3), x[9]);
        checkUndone("vote, carried", () -> x[10].vote(3), x[10]);
        x[11].second(0, 4);
        checkUndone("vote, lost", () -> x[11].vote(4), x[11]);
        checkUndone("gust", () -> x[12].gust(20), x[12]);
        checkUndone("pass", () -> x[13].pass(12), x[13]);
        checkUndone("run", () -> Scene.run(x[14], "vote 3;pass 4;pay 0 9;launch 2"), x[14]);
    }

    private static void countdown() {
        KiteTailRental x = Scene.committees(1, 2, 3);
        Check.same("undo()", x.undo(), 2);
        Check.same("committeeCount()", x.committeeCount(), 2);
        Check.same("undo()", x.undo(), 1);
        Check.same("undo()", x.undo(), 0);
        Check.same("committeeCount()", x.committeeCount(), 0);
        Check.fails("undo()", STATE, () -> x.undo());
        Check.fails("undo() again", STATE, () -> x.undo());
    }

    private static void latestEight() {
        for (int changes = 7; changes <= 26; changes++) {
            KiteTailRental x = new KiteTailRental();
            for (int i = 0; i < changes; i++) {
                x.pass(1);
            }
            int least = Math.max(0, changes - 8);
            for (int hour = changes - 1; hour >= least; hour--) {
                Check.same("undo() after " + changes, x.undo(), hour - least);
                Check.same("hour()", x.hour(), hour);
            }
            Check.fails("one undo() too many", STATE, () -> x.undo());
            Check.same("hour() in the end", x.hour(), least);
        }
    }

    private static void changesAfterUndo() {
        KiteTailRental x = new KiteTailRental();
        for (int i = 0; i < 10; i++) {
            x.pass(1);
        }
        Check.same("undo()", x.undo(), 7);
        Check.same("undo()", x.undo(), 6);
        x.pass(5);
        Check.same("hour()", x.hour(), 13);
        Check.same("undo() of the new change", x.undo(), 6);
        Check.same("hour() before the new change", x.hour(), 8);
        x.pass(12);
        x.pass(12);
        x.pass(12);
        Check.same("undo() after three new changes", x.undo(), 7);
        int[] hours = {20, 8, 7, 6, 5, 4, 3};
        for (int i = 0; i < hours.length; i++) {
            Check.same("undo()", x.undo(), 6 - i);
            Check.same("hour()", x.hour(), hours[i]);
        }
        Check.fails("one undo() too many", STATE, () -> x.undo());
    }

    private static void emptyChange() {
        KiteTailRental x = new KiteTailRental();
        x.gust(0);
        x.gust(20);
        Scene.run(x, "gust 0");
        Check.same("undo()", x.undo(), 2);
        Check.same("undo()", x.undo(), 1);
        Check.same("undo()", x.undo(), 0);
    }

    private static void noChange() {
        KiteTailRental x = Scene.committees(1, 1);
        Check.fails("pay", UnsupportedOperationException.class, () -> x.pay(0, 1));
        Check.fails("launch", STATE, () -> x.launch(0));
        Check.fails("vote", java.util.NoSuchElementException.class, () -> x.vote(0));
        Check.fails("gust", IllegalArgumentException.class, () -> x.gust(21));
        Check.fails("run of an error", IllegalArgumentException.class, () -> Scene.run(x, "pass"));
        Check.fails("run of a failure", STATE, () -> Scene.run(x, "pass 1;pass 0"));
        x.append('p');
        x.describeCommittee(0);
        x.isConsistent();
        x.arrearsAfter(0, 24);
        Check.same("hour() after a failed run", x.hour(), 0);
        Check.same("undo()", x.undo(), 1);
        Check.same("committeeCount()", x.committeeCount(), 1);
    }

    private static void nextId() {
        KiteTailRental x = Scene.committees(1, 1);
        x.moveToGround(0, 1);
        x.moveToGround(0, 1);
        x.undo();
        Check.same("openMotions()", x.openMotions(), 1);
        Check.same("the id after undo", x.moveToGround(1, 0), 1);
        x.save();
        x.withdraw(x.moveToGround(0, 0));
        x.withdraw(x.moveToGround(0, 0));
        x.restore();
        Check.same("the id after restore", x.moveToGround(1, 0), 2);
    }

    private static void save() {
        KiteTailRental x = Scene.committees(1, 1);
        Check.same("save() without motions", x.save(), 0);
        x.moveToGround(0, 1);
        x.moveToGround(0, 1);
        x.second(1, 0);
        Check.same("save() with two motions", x.save(), 2);
        x.withdraw(0);
        Check.same("save() with one motion", x.save(), 1);
    }

    private static void saveReplaces() {
        KiteTailRental x = Scene.committees(1, 1);
        x.save();
        x.pass(3);
        x.save();
        x.pass(4);
        x.restore();
        Check.same("hour()", x.hour(), 3);
    }

    private static void saveIsNoChange() {
        KiteTailRental x = Scene.committees(1, 1);
        x.pass(1);
        x.save();
        Check.same("undo() after save", x.undo(), 2);
        Check.same("hour()", x.hour(), 0);
        x.undo();
        x.undo();
        Check.same("committeeCount()", x.committeeCount(), 0);
        Check.same("restore()", x.restore(), 0);
        Check.same("hour() restored", x.hour(), 1);
        Check.same("committeeCount() restored", x.committeeCount(), 2);
    }

    private static void restore() {
        KiteTailRental x = busy();
        String saved = Scene.look(x);
        x.save();
        x.addCommittee(7);
        x.addTail(2);
        x.vote(3);
        x.untable(5);
        x.pass(12);
        x.pay(0, 18);
        x.launch(2);
        x.moveToRent(2, 2);
        Check.same("restore()", x.restore(), 3);
        Check.same("everything restored", Scene.look(x), saved);
        Check.same("the next id", x.moveToRent(2, 2), 6);
    }

    private static void restoreKeeps() {
        KiteTailRental x = Scene.committees(1, 1);
        x.moveToGround(0, 1);
        x.save();
        for (int time = 0; time < 3; time++) {
            x.pass(2);
            x.withdraw(0);
            Check.same("restore()", x.restore(), 1);
            Check.same("hour()", x.hour(), 0);
            Check.same("moverOf(0)", x.moverOf(0), 0);
        }
    }

    private static void restoreForgets() {
        KiteTailRental x = Scene.committees(1, 1);
        x.save();
        for (int i = 0; i < 9; i++) {
            x.pass(1);
        }
        x.restore();
        Check.fails("undo() after restore", STATE, () -> x.undo());
        x.pass(1);
        Check.same("undo() of a change after restore", x.undo(), 0);
        Check.same("hour()", x.hour(), 0);
        Check.fails("undo() again", STATE, () -> x.undo());
    }

    private static void restoreRefuses() {
        KiteTailRental x = Scene.committees(1, 1);
        Check.fails("restore()", STATE, () -> x.restore());
        Check.same("committeeCount()", x.committeeCount(), 2);
        Check.same("undo() after a refused restore", x.undo(), 1);
    }
}
