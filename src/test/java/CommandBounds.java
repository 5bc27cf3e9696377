/** The sentences about commands: "Terms", and promises 43 to 47. */
final class CommandBounds {
    private static final String ORDER =
            "If several exceptions apply, the exception listed first is thrown.";
    /** The shortest text of each command, all of them refused by their methods on a new object. */
    private static final String[] FORMS = {
        "committee 0", "tail 0", "pay 0 0", "launch 0", "rent 00", "return 00", "ground 00",
        "second 0 0", "untable 0", "withdraw 0", "vote 0", "gust 0", "pass 0"
    };
    /** Eight commands in 60 characters. */
    private static final String SIXTY =
            "gust 0;gust 0;gust 0;gust 0;gust 0;gust 0;gust 0;committee 1";

    private CommandBounds() {
    }

    static void tests() {
        buffer();
        form();
        numbers();
        parameters();
        errorPosition();
        keywords();
        append();
        run();
        runRefuses();
        runClears();
        answers();
        failedException();
        firstException();
    }

    private static KiteTailRental typed(String text) {
        KiteTailRental x = new KiteTailRental();
        Scene.type(x, text);
        return x;
    }

    private static void checkError(String text, int due) {
        checkError(new KiteTailRental(), text, due);
    }

    private static void checkError(KiteTailRental x, String text, int due) {
        Check.fails("run \"" + text + "\"", Refused.ARGUMENT, () -> Scene.run(x, text));
        Check.same("errorPosition of \"" + text + "\"", x.errorPosition(), due);
    }

    private static void checkFailure(KiteTailRental x, String text, int command, int exception) {
        Check.fails("run \"" + text + "\"", Refused.STATE, () -> Scene.run(x, text));
        Check.same("failedCommand of \"" + text + "\"", x.failedCommand(), command);
        Check.same("failedException of \"" + text + "\"", x.failedException(), exception);
    }

    /** The text follows the form: it is carried out or fails, but it has no error position. */
    private static void checkForm(String text) {
        KiteTailRental x = typed(text);
        try {
            x.run();
        } catch (IllegalStateException e) {
            // A command of the text fails.
        }
        Check.fails("errorPosition of \"" + text + "\"", Refused.NONE, () -> x.errorPosition());
    }

    private static void buffer() {
        String sentence = "The command text is a buffer of at most 60 characters.";
        Check.sentence(0, sentence, "the 60th is taken, the 61st is refused", () -> {
            KiteTailRental x = new KiteTailRental();
            for (int length = 1; length <= 60; length++) {
                Check.same("append", x.append('a'), length);
            }
            Check.fails("append of the 61st", Refused.STATE, () -> x.append('a'));
        });
        Check.sentence(0, sentence, "a text of 60 characters is carried out whole", () -> {
            Check.same("its length", SIXTY.length(), 60);
            KiteTailRental x = typed(SIXTY);
            Check.fails("append of the 61st", Refused.STATE, () -> x.append('1'));
            Check.same("run()", x.run(), 8);
            Check.same("members(0)", x.members(0), 1);
        });
    }

    private static void form() {
        String sentence = "A command text has the following form, where braces mean zero or more repetitions and"
                + " brackets an optional part:";
        Check.sentence(0, sentence, "one command of each kind, and two", () -> {
            for (String one : FORMS) {
                checkForm(one);
                for (String other : FORMS) {
                    checkForm(one + ";" + other);
                }
            }
        });
        Check.sentence(0, sentence, "eight commands, the most that fit", () -> {
            checkForm("gust 1;vote 2;pass 3;tail 4;gust 5;vote 6;pass 7;tail 8");
            checkForm(SIXTY);
        });
        Check.sentence(0, sentence, "no command at all", () -> {
            checkError("", 0);
            checkError(";", 0);
            checkError(";tail 1", 0);
            checkError("tail 1;", 7);
            checkError("tail 1;;tail 1", 7);
        });
        Check.sentence(0, sentence, "each digit", () -> {
            for (char digit = '0'; digit <= '9'; digit++) {
                for (String text : FORMS) {
                    checkForm(text.replace('0', digit));
                }
            }
        });
        Check.sentence(0, sentence, "the characters beside the digits", () -> {
            for (String text : FORMS) {
                int place = text.indexOf('0');
                checkError(text.replace('0', '/'), place);
                checkError(text.replace('0', ':'), place);
            }
        });
        Check.sentence(0, sentence, "a digit too few, and one too many", () -> {
            for (String text : FORMS) {
                checkError(text.substring(0, text.length() - 1), text.length() - 1);
                checkError(text.substring(0, text.length() - 1) + ";tail 1", text.length() - 1);
            }
            for (String text : new String[] {"committee 00", "tail 00", "launch 00", "rent 000",
                "return 000", "ground 000"}) {
                checkError(text, text.length() - 1);
            }
            checkError("pay 00 0", 5);
            checkError("second 00 0", 8);
        });
    }

    private static void numbers() {
        String sentence = "A command text has the following form, where braces mean zero or more repetitions and"
                + " brackets an optional part:";
        Check.sentence(0, sentence, "a number of one, two and three digits, and not of four", () -> {
            for (String text : new String[] {"pay 0 ", "second 0 ", "untable ", "withdraw ", "vote ", "gust ",
                "pass "}) {
                checkError(text, text.length());
                checkForm(text + "7");
                checkForm(text + "78");
                checkForm(text + "789");
                checkForm(text + "789;tail 1");
                checkError(text + "7890", text.length() + 3);
                checkError(text + "7 ", text.length() + 1);
            }
        });
        Check.sentence(0, sentence, "zeros before a number", () -> {
            KiteTailRental x = new KiteTailRental();
            Check.same("run", Scene.run(x, "pass 001;pass 02;gust 000;gust 020"), 4);
            Check.same("hour()", x.hour(), 3);
            checkFailure(x, "pass 000", 0, 1);
            checkFailure(x, "gust 021", 0, 1);
            checkError(x, "gust 0001", 8);
        });
        Check.sentence(0, sentence, "the number 100 is read whole", () -> {
            KiteTailRental x = Scene.committees(1, 1);
            for (int id = 0; id < 100; id++) {
                x.withdraw(x.moveToGround(0, 0));
            }
            x.moveToGround(0, 1);
            Check.same("run", Scene.run(x, "second 1 100"), 1);
            Check.same("run", Scene.run(x, "vote 100"), 1);
            Check.no("isFlying(1)", x.isFlying(1));
        });
    }

    private static void parameters() {
        String sentence = "The commands call addCommittee(), addTail(), pay(), launch(), moveToRent(),"
                + " moveToReturn(), moveToGround(), second(), untable(), withdraw(), vote(), gust() and pass(),"
                + " with the numbers of the command as parameters in their order.";
        Check.sentence(0, sentence, "of two parameters, the first first", () -> {
            KiteTailRental x = Scene.committees(1, 1, 1);
            Scene.tails(x, 1, 1, 1);
            Check.same("run", Scene.run(x, "rent 01;return 12;ground 20;second 2 1"), 4);
            Check.same("motion 0", Scene.motionLine(x, 0), "6:#0r1:0");
            Check.same("motion 1", Scene.motionLine(x, 1), "8:#1t2:1+2");
            Check.same("motion 2", Scene.motionLine(x, 2), "6:#2g0:2");
            Scene.owe(x, 1, 5);
            Check.same("run", Scene.run(x, "pay 1 2"), 1);
            Check.same("arrears(1)", x.arrears(1), 3);
        });
        Check.sentence(0, sentence, "each of one parameter", () -> {
            KiteTailRental x = new KiteTailRental();
            Scene.run(x, "committee 9;tail 8;committee 1;ground 10;gust 7;untable 0");
            Check.same("members(0)", x.members(0), 9);
            Check.same("length(0)", x.length(0), 8);
            Check.same("arrears(1), which has taken motion 0 from the table", x.arrears(1), 1);
            Scene.run(x, "pay 1 1;second 0 0;vote 0;launch 0");
            Scene.run(x, "ground 01;withdraw 1;pass 9");
            Check.yes("isFlying(0)", x.isFlying(0));
            Check.same("carriedCount()", x.carriedCount(), 1);
            Check.same("openMotions()", x.openMotions(), 0);
            Check.same("hour()", x.hour(), 9);
        });
        Check.sentence(0, "A motion that is lost does not fail.", () -> {
            KiteTailRental x = Scene.committees(1, 1);
            Scene.tails(x, 1);
            Check.same("run", Scene.run(x, "return 00;second 1 0;vote 0;pass 1"), 4);
            Check.same("lostCount()", x.lostCount(), 1);
            Check.same("hour()", x.hour(), 1);
            Check.fails("failedCommand()", Refused.NONE, () -> x.failedCommand());
        });
    }

    private static void errorPosition() {
        String sentence = "The error position of a text is the index of the first character that cannot continue"
                + " any command text.";
        Check.sentence(0, sentence, "at each place of each command, also behind another", () -> {
            for (String text : FORMS) {
                for (int place = 0; place < text.length(); place++) {
                    String wrong = text.substring(0, place) + "~" + text.substring(place + 1);
                    checkError(wrong, place);
                    checkError("tail 1;" + wrong, place + 7);
                }
                checkError(text + "~", text.length());
                checkError(text + " ", text.length());
            }
        });
        Check.sentence(0, sentence, "the first and the last place of 60", () -> {
            checkError("~" + SIXTY.substring(1), 0);
            checkError(SIXTY.substring(0, 59) + "~", 59);
        });
        Check.sentence(0, sentence, "what is wrong behind it does not count", () -> {
            checkError("tail x;~", 5);
            checkError("tail 1;tail x;tail 0", 12);
        });
        String whole = "If every character can, the error position is the length of the text.";
        Check.sentence(0, whole, "the empty text", () -> checkError("", 0));
        Check.sentence(0, whole, "each beginning of each command, also behind another", () -> {
            for (String text : FORMS) {
                for (int length = 1; length < text.length(); length++) {
                    checkError(text.substring(0, length), length);
                    checkError("tail 1;" + text.substring(0, length), 7 + length);
                }
            }
            checkError("tail 1;", 7);
        });
        Check.sentence(0, whole, "a text of 60 characters", () -> {
            checkError(SIXTY.substring(0, 49) + "tail 1;pass", 60);
            checkError("gust 100;gust 100;gust 100;gust 100;gust 100;gust 10;gust 1;", 60);
        });
    }

    private static void keywords() {
        String sentence = "Keywords are matched character by character.";
        Check.sentence(0, sentence, "words that begin alike part at the first other character", () -> {
            checkError("pa", 2);
            checkError("pat", 2);
            checkError("pasy", 3);
            checkError("pays", 3);
            checkError("re", 2);
            checkError("rex", 2);
            checkError("renurn", 3);
            checkError("rett", 3);
            checkError("g", 1);
            checkError("grust", 2);
            checkError("guound", 2);
        });
        Check.sentence(0, sentence, "blanks, capitals and words run together", () -> {
            checkError(" tail 1", 0);
            checkError("Tail 1", 0);
            checkError("taiL 1", 3);
            checkError("tail1", 4);
            checkError("tail  1", 5);
            checkError("tail 1 ", 6);
            checkError("tail 1; tail 1", 7);
            checkError("tailtail 1", 4);
        });
    }

    private static void append() {
        Check.sentence(43, "Returns the length of the command text after the call.", () -> {
            KiteTailRental x = new KiteTailRental();
            Check.same("the first", x.append('x'), 1);
            for (int length = 2; length < 60; length++) {
                x.append('x');
            }
            Check.same("the last", x.append('x'), 60);
        });
        String code = "Throws `IllegalArgumentException` if the code of the character is not from 32 to 126";
        Check.sentence(43, code, "31 and 127 are refused, 32 and 126 are taken", () -> {
            KiteTailRental x = new KiteTailRental();
            Check.fails("append of 31", Refused.ARGUMENT, () -> x.append((char) 31));
            Check.same("append of 32", x.append((char) 32), 1);
            Check.same("append of 126", x.append((char) 126), 2);
            Check.fails("append of 127", Refused.ARGUMENT, () -> x.append((char) 127));
            Check.same("append of 33", x.append((char) 33), 3);
        });
        Check.sentence(43, code, "each code that is refused changes nothing", () -> {
            Refused.each(Refused::twoAndTwo, "append", Refused.ARGUMENT, (x, n) -> x.append((char) n),
                    0, 9, 10, 31, 127, 128, 160, 255, 256 + 32, 65535);
        });
        Check.sentence(43, "Throws `IllegalStateException` if the command text has 60 characters", () -> {
            KiteTailRental x = typed(SIXTY.substring(0, 59));
            Check.same("the 60th", x.append('1'), 60);
            Check.fails("the 61st", Refused.STATE, () -> x.append('1'));
            Check.fails("the 61st again", Refused.STATE, () -> x.append(';'));
            Check.same("run() of the 60", x.run(), 8);
            Check.same("the first of the next text", x.append('1'), 1);
        });
        Check.sentence(0, ORDER, "append: the code before the 60 characters", () -> {
            KiteTailRental x = typed(SIXTY);
            Check.fails("the 61st of code 31", Refused.ARGUMENT, () -> x.append((char) 31));
            Check.fails("the 61st of code 127", Refused.ARGUMENT, () -> x.append((char) 127));
            Check.same("run() of the 60", x.run(), 8);
        });
    }

    private static void run() {
        Check.sentence(44, "Parses the command text and carries out its commands in order.", () -> {
            KiteTailRental x = new KiteTailRental();
            Check.same("run", Scene.run(x, "committee 1;committee 2;ground 01;gust 1;untable 0"), 5);
            Check.same("members(0)", x.members(0), 1);
            Check.same("members(1)", x.members(1), 2);
            Check.no("isTabled(0)", x.isTabled(0));
        });
        String all = "Either all commands are carried out, or none.";
        Check.sentence(44, all, "the last of eight fails", () -> {
            KiteTailRental x = new KiteTailRental();
            checkFailure(x, "tail 1;tail 2;pass 3;pass 4;tail 5;gust 6;pass 7;tail 0", 7, 1);
            Check.same("tailCount()", x.tailCount(), 0);
            Check.same("hour()", x.hour(), 0);
            Check.fails("undo()", Refused.STATE, () -> x.undo());
            Check.same("run of eight", Scene.run(x, "tail 1;tail 2;pass 3;pass 4;tail 5;gust 6;pass 7;tail 8"),
                    8);
            Check.same("tailCount()", x.tailCount(), 4);
            Check.same("hour()", x.hour(), 14);
        });
        Check.sentence(44, all, "whatever kind of command stands before the one that fails", () -> {
            for (String command : Scene.READY_COMMANDS) {
                checkNothingStays(command);
            }
        });
        Check.sentence(44, "The first command whose method would throw an exception is the failed command.",
                () -> {
            checkFailure(new KiteTailRental(), "pass 1;pass 0;tail 0", 1, 1);
            checkFailure(new KiteTailRental(), "pass 0;pay 0 0", 0, 1);
            checkFailure(Scene.ready(), "withdraw 3;withdraw 3;pass 0", 1, 1);
            checkFailure(Scene.ready(), "launch 2;launch 2", 1, 2);
            checkFailure(Scene.ready(), "pay 0 1;pay 0 1", 1, 3);
        });
        Check.sentence(44, "Returns the number of commands.", () -> {
            StringBuilder text = new StringBuilder();
            for (int count = 1; count <= 8; count++) {
                text.append(count == 1 ? "" : ";").append("pass 1");
                Check.same("run of " + count, Scene.run(new KiteTailRental(), text.toString()), count);
            }
            Check.same("run of a motion that is lost", Scene.run(Scene.ready(), "return 00;second 1 5;vote 5"),
                    3);
        });
    }

    /** A run that fails behind the command leaves each state that can still be reached by undo or restore. */
    private static void checkNothingStays(String command) {
        for (int undos = 0; undos <= 9; undos++) {
            KiteTailRental with = Scene.ready();
            KiteTailRental without = Scene.ready();
            checkFailure(with, command + ";pass 0", 1, 1);
            if (undos == 9) {
                Check.same("restore()", with.restore(), without.restore());
            } else {
                for (int i = 0; i < undos; i++) {
                    Check.same("undo() after a failed " + command, with.undo(), without.undo());
                }
            }
            Check.same("everything after a failed " + command, Scene.look(with), Scene.look(without));
            Check.same("the next id after it", Scene.nextId(with), Scene.nextId(without));
        }
    }

    private static void runRefuses() {
        String error = "Throws `IllegalArgumentException` if the text is not a command text; the error position"
                + " is set and the failure is left as it is";
        Check.sentence(44, error, "no command failed before", () -> {
            KiteTailRental x = Scene.ready();
            String before = Scene.look(x);
            checkError(x, "pass 1;pass", 11);
            Check.fails("failedCommand()", Refused.NONE, () -> x.failedCommand());
            Check.fails("failedException()", Refused.NONE, () -> x.failedException());
            Check.same("everything after it", Scene.look(x), before);
            Check.same("undo() after it", x.undo(), 7);
        });
        Check.sentence(44, error, "a command failed before", () -> {
            KiteTailRental x = Scene.ready();
            checkFailure(x, "pass 1;tail 1;launch 1", 2, 2);
            checkError(x, "", 0);
            Check.same("failedCommand()", x.failedCommand(), 2);
            Check.same("failedException()", x.failedException(), 2);
        });
        String failure = "Throws `IllegalStateException` if a command fails; the failure is set and the error"
                + " position is left as it is";
        Check.sentence(44, failure, "no error position was set before", () -> {
            KiteTailRental x = Scene.ready();
            checkFailure(x, "pass 1;pay 0 1;pay 0 99", 2, 3);
            Check.fails("errorPosition()", Refused.NONE, () -> x.errorPosition());
        });
        Check.sentence(44, failure, "an error position was set before", () -> {
            KiteTailRental x = Scene.ready();
            checkError(x, "pass 1;x", 7);
            checkFailure(x, "launch 0", 0, 2);
            Check.same("errorPosition()", x.errorPosition(), 7);
        });
        Check.sentence(0, ORDER, "run: no command text before a command that fails", () -> {
            KiteTailRental x = new KiteTailRental();
            checkError(x, "pass 0;", 7);
            checkError(x, "tail 0;tail", 11);
            Check.fails("failedCommand()", Refused.NONE, () -> x.failedCommand());
        });
    }

    private static void runClears() {
        String sentence = "The command text is empty after the call, also if an exception is thrown.";
        Check.sentence(44, sentence, "the commands are carried out", () -> {
            KiteTailRental x = typed(SIXTY);
            x.run();
            checkEmpty(x);
        });
        Check.sentence(44, sentence, "the text is not a command text", () -> {
            KiteTailRental x = typed(SIXTY.replace('1', 'x'));
            Check.fails("run()", Refused.ARGUMENT, () -> x.run());
            checkEmpty(x);
        });
        Check.sentence(44, sentence, "a command fails", () -> {
            KiteTailRental x = typed(SIXTY.replace('1', '0'));
            Check.fails("run()", Refused.STATE, () -> x.run());
            checkEmpty(x);
        });
        Check.sentence(44, sentence, "it was empty", () -> {
            KiteTailRental x = new KiteTailRental();
            Check.fails("run()", Refused.ARGUMENT, () -> x.run());
            checkEmpty(x);
        });
    }

    private static void checkEmpty(KiteTailRental x) {
        Check.fails("run() of the empty text", Refused.ARGUMENT, () -> x.run());
        Check.same("errorPosition() of the empty text", x.errorPosition(), 0);
        Check.same("append", x.append('p'), 1);
    }

    private static void answers() {
        Check.sentence(45, "Returns the error position that was set last.", () -> {
            KiteTailRental x = new KiteTailRental();
            checkError(x, SIXTY.substring(0, 59) + "x", 59);
            checkError(x, "tail", 4);
            Scene.run(x, "pass 1");
            checkFailure(x, "pass 0", 0, 1);
            Check.same("errorPosition()", x.errorPosition(), 4);
            Check.same("errorPosition() again", x.errorPosition(), 4);
        });
        Check.sentence(45, "Throws `NoSuchElementException` if no error position was set", () -> {
            KiteTailRental x = new KiteTailRental();
            Check.fails("errorPosition() at first", Refused.NONE, () -> x.errorPosition());
            Scene.run(x, "pass 1");
            checkFailure(x, "pass 1;pass 0", 1, 1);
            Check.fails("errorPosition() after a failure", Refused.NONE, () -> x.errorPosition());
            checkError(x, "", 0);
            Refused.onNew(y -> {
                Refused.twoAndTwo(y);
                checkFailure(y, "launch 0", 0, 2);
            }, "errorPosition()", Refused.NONE, y -> y.errorPosition());
        });
        Check.sentence(46, "Returns the index of the failed command of the latest run in which a command failed.",
                () -> {
            KiteTailRental x = new KiteTailRental();
            checkFailure(x, "pass 1;pass 1;pass 0", 2, 1);
            checkFailure(x, "pass 1;launch 0", 1, 1);
            Scene.run(x, "pass 1");
            checkError(x, "pass", 4);
            Check.same("failedCommand()", x.failedCommand(), 1);
        });
        Check.sentence(46, "Returns the index, from 0.", () -> {
            checkFailure(new KiteTailRental(), "pass 0;pass 1", 0, 1);
            checkFailure(new KiteTailRental(), SIXTY.replace('1', '0'), 7, 1);
        });
        String none = "Throws `NoSuchElementException` if no command has failed";
        Check.sentence(46, none, () -> checkNoFailure(x -> x.failedCommand()));
        Check.sentence(47, none, () -> checkNoFailure(x -> x.failedException()));
    }

    private static void checkNoFailure(Refused.Act question) {
        KiteTailRental x = Scene.committees(1);
        Check.fails("the question at first", Refused.NONE, () -> question.on(x));
        Scene.run(x, "pass 1");
        checkError(x, "pass", 4);
        Check.fails("pass(0), which is no command", Refused.ARGUMENT, () -> x.pass(0));
        Check.fails("the question after it", Refused.NONE, () -> question.on(x));
        checkFailure(x, "launch 0", 0, 2);
        question.on(x);
        Refused.onNew(y -> {
            Refused.twoAndTwo(y);
            checkError(y, "pass", 4);
        }, "the question", Refused.NONE, question);
    }

    /** Six committees, eight tails and eight open motions of committee 0, the first one seconded. */
    private static KiteTailRental full() {
        KiteTailRental x = Scene.committees(1, 1, 1, 1, 1, 1);
        Scene.tails(x, 1, 1, 1, 1, 1, 1, 1, 1);
        for (int motion = 0; motion < 8; motion++) {
            x.moveToGround(0, 1);
        }
        x.second(1, 0);
        return x;
    }

    private static void failedException() {
        Check.sentence(47, "Returns the position that the exception of the failed command has in the throws list"
                + " of its method.", "committees, tails and hours", () -> {
            checkFailure(full(), "committee 0", 0, 1);
            checkFailure(full(), "committee 1", 0, 2);
            checkFailure(full(), "tail 0", 0, 1);
            checkFailure(full(), "tail 1", 0, 2);
            checkFailure(full(), "pay 6 1", 0, 1);
            checkFailure(full(), "pay 5 0", 0, 2);
            checkFailure(full(), "pay 5 100", 0, 2);
            checkFailure(full(), "pay 5 1", 0, 3);
            checkFailure(full(), "launch 6", 0, 1);
            checkFailure(full(), "launch 5", 0, 2);
            checkFailure(full(), "gust 21", 0, 1);
            checkFailure(full(), "pass 0", 0, 1);
            checkFailure(full(), "pass 13", 0, 1);
        });
        Check.sentence(47, "Returns the position that the exception of the failed command has in the throws list"
                + " of its method.", "motions", () -> {
            for (String kind : new String[] {"rent ", "return ", "ground "}) {
                checkFailure(full(), "withdraw 7;" + kind + "60", 1, 1);
                checkFailure(full(), "withdraw 7;" + kind + "08", 1, 1);
                checkFailure(full(), kind + "55", 0, 2);
            }
            checkFailure(full(), "withdraw 7;ground 06", 1, 1);
            checkFailure(full(), "second 6 1", 0, 1);
            checkFailure(full(), "second 5 8", 0, 2);
            checkFailure(full(), "second 0 1", 0, 3);
            checkFailure(full(), "second 2 0", 0, 4);
            checkFailure(full(), "untable 8", 0, 1);
            checkFailure(full(), "untable 7", 0, 2);
            checkFailure(full(), "withdraw 8", 0, 1);
            checkFailure(full(), "vote 8", 0, 1);
            checkFailure(full(), "vote 1", 0, 2);
            checkFailure(full(), "gust 1;vote 0", 1, 2);
        });
        Check.sentence(47, "Returns the position, from 1.", () -> {
            checkFailure(full(), "withdraw 999", 0, 1);
            checkFailure(full(), "second 1 0", 0, 4);
        });
    }

    private static void firstException() {
        Check.sentence(0, ORDER, "commands: the position of the first one", () -> {
            checkFailure(full(), "committee 0", 0, 1);
            checkFailure(full(), "tail 0", 0, 1);
            checkFailure(full(), "pay 6 0", 0, 1);
            checkFailure(full(), "pay 5 100", 0, 2);
            checkFailure(full(), "rent 60", 0, 1);
            checkFailure(full(), "rent 08", 0, 1);
            checkFailure(full(), "return 60", 0, 1);
            checkFailure(full(), "return 08", 0, 1);
            checkFailure(full(), "ground 60", 0, 1);
            checkFailure(full(), "ground 06", 0, 1);
            checkFailure(full(), "second 6 8", 0, 1);
            checkFailure(full(), "second 6 0", 0, 1);
            checkFailure(full(), "second 0 0", 0, 3);
        });
    }
}
