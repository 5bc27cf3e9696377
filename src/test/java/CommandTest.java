import java.util.NoSuchElementException;

/** Promises 43 to 47: the command text, run, the error position and the failure. */
public final class CommandTest {
    private static final Class<IllegalArgumentException> ARGUMENT = IllegalArgumentException.class;
    private static final Class<IllegalStateException> STATE = IllegalStateException.class;
    private static final Class<NoSuchElementException> NONE = NoSuchElementException.class;

    private static final String[] FORMS = {
        "committee 0", "tail 0", "pay 0 0", "launch 0", "rent 00", "return 00", "ground 00",
        "second 0 0", "untable 0", "withdraw 0", "vote 0", "gust 0", "pass 0"
    };

    public static void main(String[] args) {
        Check.test("43 append answers the length", CommandTest::append);
        Check.test("43 append refuses", CommandTest::appendRefuses);
        Check.test("44 run carries out each kind of command", CommandTest::everyCommand);
        Check.test("44 run answers the number of commands", CommandTest::numberOfCommands);
        Check.test("44 run takes a text of 60 characters", CommandTest::longestText);
        Check.test("44 run clears the command text", CommandTest::runClears);
        Check.test("44 run reads numbers of one to three digits", CommandTest::numbers);
        Check.test("44 run carries out all commands or none", CommandTest::allOrNone);
        Check.test("44 a motion that is lost does not fail", CommandTest::lostVote);
        Check.test("44 run is one change", CommandTest::oneChange);
        Check.test("44 a text is read whole before its commands", CommandTest::readFirst);
        Check.test("45 errorPosition of a text that breaks off", CommandTest::brokenOff);
        Check.test("45 errorPosition of wrong characters", CommandTest::wrongCharacters);
        Check.test("45 errorPosition inside of keywords", CommandTest::keywords);
        Check.test("45 errorPosition after a semicolon", CommandTest::afterSemicolon);
        Check.test("45 errorPosition stays until it is set again", CommandTest::errorStays);
        Check.test("46 failedCommand", CommandTest::failedCommand);
        Check.test("47 failedException of each method", CommandTest::failedException);
        Check.test("47 failedException is the first that applies", CommandTest::firstException);
        Check.test("46-47 the failure stays until it is set again", CommandTest::failureStays);
        Check.test("43-47 undo and restore leave text, error and failure", CommandTest::notUndone);
        Check.end();
    }

    private static void append() {
        KiteTailRental x = new KiteTailRental();
        Check.same("append(' ')", x.append(' '), 1);
        Check.same("append('~')", x.append('~'), 2);
        for (int length = 3; length <= 60; length++) {
            Check.same("append", x.append((char) (30 + length)), length);
        }
    }

    private static void appendRefuses() {
        KiteTailRental x = new KiteTailRental();
        char[] wrong = {0, 10, 31, 127, 128, 160, 255, 256, 32 + 256, Character.MAX_VALUE};
        for (char c : wrong) {
            Check.fails("append of code " + (int) c, ARGUMENT, () -> x.append(c));
        }
        Check.same("append after refusals", x.append('a'), 1);
        for (int length = 2; length <= 60; length++) {
            x.append('a');
        }
        Check.fails("a 61st character", STATE, () -> x.append('a'));
        Check.fails("a 61st character of code 31", ARGUMENT, () -> x.append((char) 31));
        Check.fails("a 61st character of code 127", ARGUMENT, () -> x.append((char) 127));
        Check.fails("run()", ARGUMENT, () -> x.run());
        Check.same("append after run", x.append('a'), 1);
    }

    private static void checkRun(KiteTailRental x, String text, int due) {
        Check.same("run \"" + text + "\"", Scene.run(x, text), due);
    }

    private static void checkError(KiteTailRental x, String text, int due) {
        Check.fails("run \"" + text + "\"", ARGUMENT, () -> Scene.run(x, text));
        Check.same("errorPosition of \"" + text + "\"", x.errorPosition(), due);
    }

    private static void checkFailure(KiteTailRental x, String text, int command, int exception) {
        Check.fails("run \"" + text + "\"", STATE, () -> Scene.run(x, text));
        Check.same("failedCommand of \"" + text + "\"", x.failedCommand(), command);
        Check.same("failedException of \"" + text + "\"", x.failedException(), exception);
    }

    private static void everyCommand() {
        KiteTailRental x = new KiteTailRental();
        checkRun(x, "committee 3", 1);
        checkRun(x, "committee 9;committee 2", 2);
        Check.same("members(1)", x.members(1), 9);
        checkRun(x, "tail 7;tail 4", 2);
        Check.same("length(1)", x.length(1), 4);
        checkRun(x, "rent 01;second 2 0", 2);
        Check.same("motion 0", Scene.motionLine(x, 0), "8:#0r1:0+2");
        checkRun(x, "vote 0", 1);
        Check.same("renterOf(1)", x.renterOf(1), 0);
        checkRun(x, "pass 3", 1);
        Check.same("arrears(0)", x.arrears(0), 12);
        checkRun(x, "pay 0 5", 1);
        Check.same("arrears(0) after pay", x.arrears(0), 7);
        checkRun(x, "return 01", 1);
        Check.same("motion 1", Scene.motionLine(x, 1), "6:#1t1:0");
        checkRun(x, "ground 21", 1);
        Check.same("motion 2", Scene.motionLine(x, 2), "6:#2g1:2");
        checkRun(x, "gust 4", 1);
        Check.no("isTabled(1)", x.isTabled(1));
        Check.yes("isTabled(2)", x.isTabled(2));
        checkRun(x, "untable 2", 1);
        Check.no("isTabled(2) taken up", x.isTabled(2));
        Check.same("arrears(2)", x.arrears(2), 1);
        checkRun(x, "second 0 2;vote 2", 2);
        Check.no("isFlying(1)", x.isFlying(1));
        checkRun(x, "return 20;second 1 3;vote 3", 3);
        checkRun(x, "launch 1", 1);
        Check.yes("isFlying(1) launched", x.isFlying(1));
        checkRun(x, "withdraw 1", 1);
        Check.same("openMotions()", x.openMotions(), 0);
        Check.same("carriedCount()", x.carriedCount(), 2);
        Check.same("lostCount()", x.lostCount(), 1);
    }

    private static void numberOfCommands() {
        KiteTailRental x = new KiteTailRental();
        checkRun(x, "gust 0", 1);
        checkRun(x, "gust 0;gust 1", 2);
        checkRun(x, "gust 0;pass 1;gust 20;pass 12;tail 1;tail 2;tail 3", 7);
        checkRun(x, "gust 0;gust 0;gust 0;gust 0;gust 0;gust 0;gust 0;gust 0", 8);
        Check.same("hour()", x.hour(), 13);
        Check.same("tailCount()", x.tailCount(), 3);
    }

    private static void longestText() {
        KiteTailRental x = new KiteTailRental();
        String text = "tail 1;tail 2;tail 3;tail 4;tail 5;tail 6;tail 7;committee 8";
        Check.same("its length", text.length(), 60);
        checkRun(x, text, 8);
        Check.same("tailCount()", x.tailCount(), 7);
        Check.same("members(0)", x.members(0), 8);
    }

    private static void runClears() {
        KiteTailRental x = new KiteTailRental();
        checkRun(x, "tail 1", 1);
        Check.same("append after a run", x.append('t'), 1);
        Check.fails("run of \"t\"", ARGUMENT, () -> x.run());
        Check.same("append after an error", x.append('t'), 1);
        checkFailureOf(x, "ail 0");
        Check.same("append after a failure", x.append('t'), 1);
        checkRun(x, "ail 2", 1);
        Check.same("tailCount()", x.tailCount(), 2);
    }

    private static void checkFailureOf(KiteTailRental x, String rest) {
        Check.fails("run of a text that ends with \"" + rest + "\"", STATE, () -> Scene.run(x, rest));
    }

    private static void numbers() {
        KiteTailRental x = Scene.committees(1, 1);
        checkRun(x, "pass 1;pass 01;pass 001;pass 12;pass 012", 5);
        Check.same("hour()", x.hour(), 27);
        checkRun(x, "gust 020;gust 20;gust 000", 3);
        checkFailure(x, "gust 021", 0, 1);
        checkFailure(x, "gust 999", 0, 1);
        checkFailure(x, "pass 120", 0, 1);
        checkError(x, "pass 1200", 8);
        checkError(x, "pass 0001", 8);
        for (int id = 0; id < 101; id++) {
            x.moveToGround(0, 1);
            if (id < 100) {
                x.withdraw(id);
            }
        }
        checkRun(x, "second 1 100;vote 100", 2);
        Check.no("isFlying(1)", x.isFlying(1));
    }

    private static void allOrNone() {
        KiteTailRental x = Scene.committees(3, 3);
        Scene.tails(x, 5);
        x.moveToRent(0, 0);
        x.describeMotion(0);
        String before = Scene.look(x);
        int undos = 4;
        checkFailure(x, "second 1 0;vote 0;pass 1;pay 0 5;gust 21", 4, 1);
        checkFailure(x, "committee 1;tail 1;rent 21;pass 12;launch 2", 4, 2);
        checkFailure(x, "withdraw 0;withdraw 0", 1, 1);
        checkFailure(x, "gust 9;untable 0;untable 0", 2, 2);
        checkFailure(x, "second 1 0;vote 0;pass 3;vote 0", 3, 1);
        Check.same("everything after failures", Scene.look(x), before);
        Check.same("the next id", x.moveToRent(0, 0), 1);
        Check.same("undo() counts no failed run", x.undo(), undos);
    }

    private static void lostVote() {
        KiteTailRental x = Scene.committees(3, 3);
        Scene.tails(x, 5);
        checkRun(x, "return 00;second 1 0;vote 0;pass 1", 4);
        Check.same("lostCount()", x.lostCount(), 1);
        Check.same("hour()", x.hour(), 1);
    }

    private static void oneChange() {
        KiteTailRental x = Scene.committees(3, 3);
        Scene.tails(x, 5);
        String before = Scene.look(x);
        checkRun(x, "rent 00;second 1 0;vote 0;pass 1;pay 0 5;gust 2", 6);
        Check.same("undo()", x.undo(), 3);
        Check.same("everything after undo", Scene.look(x), before);
        Check.same("the next id", x.moveToRent(0, 0), 0);
    }

    private static void readFirst() {
        KiteTailRental x = new KiteTailRental();
        checkError(x, "tail 1;tail 0;tail", 18);
        checkError(x, "tail 0;tail x", 12);
        Check.same("tailCount()", x.tailCount(), 0);
        Check.fails("failedCommand()", NONE, () -> x.failedCommand());
    }

    private static void brokenOff() {
        KiteTailRental x = new KiteTailRental();
        checkError(x, "", 0);
        for (String form : FORMS) {
            for (int length = 1; length < form.length(); length++) {
                checkErrorOnNew(form.substring(0, length), length);
            }
        }
        checkErrorOnNew("pay 0 ", 6);
        checkErrorOnNew("tail 1;", 7);
        checkErrorOnNew("tail 1;second 1 ", 16);
        checkErrorOnNew("gust 1;gust 1;gust 1;gust 1;gust 1;gust 1;gust 1;gust 1;gust", 60);
    }

    private static void checkErrorOnNew(String text, int due) {
        checkError(new KiteTailRental(), text, due);
    }

    /** A sign that no command text has breaks each form at each place. */
    private static void wrongCharacters() {
        for (String form : FORMS) {
            for (int place = 0; place < form.length(); place++) {
                String text = form.substring(0, place) + "?" + form.substring(place + 1);
                checkErrorOnNew(text, place);
                checkErrorOnNew("tail 1;" + text, 7 + place);
            }
            checkErrorOnNew(form + "?", form.length());
            checkErrorOnNew(form + " ", form.length());
        }
        checkErrorOnNew(" tail 1", 0);
        checkErrorOnNew("Tail 1", 0);
        checkErrorOnNew("tail  1", 5);
        checkErrorOnNew("tail 12", 6);
        checkErrorOnNew("tail /", 5);
        checkErrorOnNew("tail :", 5);
        checkErrorOnNew("gust /", 5);
        checkErrorOnNew("gust :", 5);
        checkErrorOnNew("gust -1", 5);
        checkErrorOnNew("committee 10", 11);
        checkErrorOnNew("launch 00", 8);
        checkErrorOnNew("rent 0 0", 6);
        checkErrorOnNew("rent 000", 7);
        checkErrorOnNew("return 000", 9);
        checkErrorOnNew("ground 000", 9);
        checkErrorOnNew("pay 00 1", 5);
        checkErrorOnNew("pay 0 1 1", 7);
        checkErrorOnNew("second 00 1", 8);
        checkErrorOnNew("vote 1234", 8);
        checkErrorOnNew("vote 12a", 7);
        checkErrorOnNew("pass 1,pass 1", 6);
    }

    private static void keywords() {
        checkErrorOnNew("pax", 2);
        checkErrorOnNew("pas1", 3);
        checkErrorOnNew("pay1", 3);
        checkErrorOnNew("pass1", 4);
        checkErrorOnNew("rex", 2);
        checkErrorOnNew("renturn 00", 4);
        checkErrorOnNew("retn", 3);
        checkErrorOnNew("returt", 5);
        checkErrorOnNew("gr ", 2);
        checkErrorOnNew("gus ", 3);
        checkErrorOnNew("guound 00", 2);
        checkErrorOnNew("x", 0);
        checkErrorOnNew("1", 0);
        checkErrorOnNew("tpay 0 1", 1);
        checkErrorOnNew("undo", 2);
        checkErrorOnNew("vote\u007e", 4);
    }

    private static void afterSemicolon() {
        checkErrorOnNew(";", 0);
        checkErrorOnNew(";tail 1", 0);
        checkErrorOnNew("tail 1;;tail 1", 7);
        checkErrorOnNew("tail 1; tail 1", 7);
        checkErrorOnNew("tail 1 ;tail 1", 6);
        checkErrorOnNew("tail;", 4);
        checkErrorOnNew("tail ;", 5);
        checkErrorOnNew("pay 1;", 5);
        checkErrorOnNew("pay 1 ;", 6);
        checkErrorOnNew("rent 1;", 6);
    }

    private static void errorStays() {
        KiteTailRental x = new KiteTailRental();
        Check.fails("errorPosition() at first", NONE, () -> x.errorPosition());
        checkRun(x, "tail 1", 1);
        Check.fails("errorPosition() after a run", NONE, () -> x.errorPosition());
        checkFailure(x, "tail 0", 0, 1);
        Check.fails("errorPosition() after a failure", NONE, () -> x.errorPosition());
        checkError(x, "tale 1", 2);
        checkRun(x, "tail 1", 1);
        Check.same("errorPosition() after a run", x.errorPosition(), 2);
        checkFailure(x, "tail 1;tail 0", 1, 1);
        Check.same("errorPosition() after a failure", x.errorPosition(), 2);
        checkError(x, "", 0);
        Check.same("errorPosition() asked again", x.errorPosition(), 0);
    }

    private static void failedCommand() {
        KiteTailRental x = Scene.committees(3, 3);
        checkFailure(x, "pay 9 0", 0, 1);
        checkFailure(x, "pass 1;pay 9 0", 1, 1);
        checkFailure(x, "gust 1;gust 1;gust 1;gust 1;gust 1;gust 1;gust 1;gust 21", 7, 1);
        checkFailure(x, "pass 0;pay 9 0", 0, 1);
        Check.same("hour()", x.hour(), 0);
    }

    private static void failedException() {
        checkFailure(new KiteTailRental(), "committee 0", 0, 1);
        checkFailure(Scene.committees(1, 1, 1, 1, 1, 1), "committee 1", 0, 2);
        checkFailure(new KiteTailRental(), "tail 0", 0, 1);
        checkFailure(fullOfTails(), "tail 1", 0, 2);
        checkFailure(Scene.committees(1, 1), "pay 2 1", 0, 1);
        checkFailure(Scene.committees(1, 1), "pay 1 0", 0, 2);
        checkFailure(Scene.committees(1, 1), "pay 1 100", 0, 2);
        checkFailure(Scene.committees(1, 1), "pay 1 1", 0, 3);
        checkFailure(Scene.committees(1, 1), "launch 2", 0, 1);
        checkFailure(Scene.committees(1, 1), "launch 1", 0, 2);
        for (String kind : new String[] {"rent ", "return ", "ground "}) {
            checkFailure(motionsOpen(7), kind + "20", 0, 1);
            checkFailure(motionsOpen(7), kind + "02", 0, 1);
            checkFailure(motionsOpen(8), kind + "00", 0, 2);
        }
        checkFailure(motionsOpen(1), "second 2 0", 0, 1);
        checkFailure(motionsOpen(1), "second 1 1", 0, 2);
        checkFailure(motionsOpen(1), "second 0 0", 0, 3);
        checkFailure(motionsOpen(1), "second 1 0;second 1 0", 1, 4);
        checkFailure(motionsOpen(1), "untable 1", 0, 1);
        checkFailure(motionsOpen(1), "untable 0", 0, 2);
        checkFailure(motionsOpen(1), "withdraw 1", 0, 1);
        checkFailure(motionsOpen(1), "vote 1", 0, 1);
        checkFailure(motionsOpen(1), "vote 0", 0, 2);
        checkFailure(motionsOpen(1), "second 1 0;gust 1;vote 0", 2, 2);
        checkFailure(new KiteTailRental(), "gust 21", 0, 1);
        checkFailure(new KiteTailRental(), "pass 0", 0, 1);
        checkFailure(new KiteTailRental(), "pass 13", 0, 1);
    }

    private static void firstException() {
        checkFailure(Scene.committees(1, 1, 1, 1, 1, 1), "committee 0", 0, 1);
        checkFailure(fullOfTails(), "tail 0", 0, 1);
        checkFailure(Scene.committees(1), "pay 1 0", 0, 1);
        checkFailure(motionsOpen(8), "rent 20", 0, 1);
        checkFailure(motionsOpen(8), "return 02", 0, 1);
        checkFailure(motionsOpen(8), "ground 22", 0, 1);
        checkFailure(motionsOpen(1), "second 2 1", 0, 1);
        checkFailure(motionsOpen(1), "second 1 0;second 0 0", 1, 3);
    }

    private static KiteTailRental fullOfTails() {
        KiteTailRental x = new KiteTailRental();
        Scene.tails(x, 1, 1, 1, 1, 1, 1, 1, 1);
        return x;
    }

    /** Two committees, two tails and so many open motions of committee 0. */
    private static KiteTailRental motionsOpen(int count) {
        KiteTailRental x = Scene.committees(1, 1);
        Scene.tails(x, 1, 1);
        for (int i = 0; i < count; i++) {
            x.moveToRent(0, 0);
        }
        return x;
    }

    private static void failureStays() {
        KiteTailRental x = new KiteTailRental();
        Check.fails("failedCommand() at first", NONE, () -> x.failedCommand());
        Check.fails("failedException() at first", NONE, () -> x.failedException());
        checkRun(x, "committee 1", 1);
        checkError(x, "tale 1", 2);
        Check.fails("failedCommand() after an error", NONE, () -> x.failedCommand());
        Check.fails("failedException() after an error", NONE, () -> x.failedException());
        checkFailure(x, "tail 1;tail 1;launch 0", 2, 2);
        checkRun(x, "tail 1", 1);
        checkError(x, "tail", 4);
        Check.fails("pay(9, 1), no command", IndexOutOfBoundsException.class, () -> x.pay(9, 1));
        Check.same("failedCommand() still", x.failedCommand(), 2);
        Check.same("failedException() still", x.failedException(), 2);
        checkFailure(x, "pay 0 1", 0, 3);
        checkFailure(x, "tail 1;launch 3", 1, 1);
    }

    private static void notUndone() {
        KiteTailRental x = new KiteTailRental();
        x.save();
        checkRun(x, "committee 1", 1);
        checkError(x, "tale 1", 2);
        checkFailure(x, "tail 1;launch 0", 1, 2);
        Scene.type(x, "ta");
        x.undo();
        Check.same("append after undo", x.append('i'), 3);
        Check.same("errorPosition() after undo", x.errorPosition(), 2);
        Check.same("failedCommand() after undo", x.failedCommand(), 1);
        x.restore();
        Check.same("append after restore", x.append('l'), 4);
        Check.same("errorPosition() after restore", x.errorPosition(), 2);
        Check.same("failedCommand() after restore", x.failedCommand(), 1);
        Check.same("failedException() after restore", x.failedException(), 2);
        checkRun(x, " 7", 1);
        Check.same("length(0)", x.length(0), 7);
    }
}
