import java.lang.reflect.InvocationTargetException;
import java.lang.reflect.Method;
import java.util.ArrayList;
import java.util.List;
import java.util.Random;

/**
 * Promises 1 to 56 together: long runs of calls, the same ones at each time, on the class and on the
 * model. Each answer and each exception must be the same.
 */
public final class ModelTest {
    private static final int RUNS = 400;
    private static final int CALLS = 512;
    private static final int WRONG_SHOWN = 3;

    private static final String[] QUESTIONS = {
        "committeeCount", "tailCount", "shortestFreeTail", "openMotions", "hour", "carriedCount",
        "lostCount", "paidTotal", "chargedTotal", "errorPosition", "failedCommand", "failedException",
        "meanArrears", "rentedShare", "isConsistent"
    };
    private static final String[] OF_COMMITTEE = {
        "members", "arrears", "isFlying", "tailLength", "tailsOf", "describeCommittee", "committeeAtRank"
    };
    private static final String[] OF_TAIL = {"length", "isFree", "renterOf"};
    private static final String[] OF_MOTION = {
        "moverOf", "isSeconded", "seconderOf", "isTabled", "votesFor", "votesForByMember",
        "votesAgainst", "describeMotion"
    };
    private static final String[] KEYWORDS = {
        "committee ", "tail ", "pay ", "launch ", "rent ", "return ", "ground ", "second ", "untable ",
        "withdraw ", "vote ", "gust ", "pass "
    };
    private static final String SIGNS = "0123456789; abcdefghijklmnopqrstuvwxyz";

    private final KiteTailRental rental = new KiteTailRental();
    private final Model model = new Model();
    private final Random random;
    private final List<String> calls = new ArrayList<>();
    private boolean isWrong = false;

    private ModelTest(int seed) {
        random = new Random(seed);
    }

    public static void main(String[] args) {
        Check.test("1-56 " + RUNS + " runs of " + CALLS + " calls on class and model", () -> {
            int wrong = 0;
            for (int seed = 0; seed < RUNS && wrong < WRONG_SHOWN; seed++) {
                ModelTest run = new ModelTest(seed);
                run.go();
                wrong += run.isWrong ? 1 : 0;
            }
        });
        Check.end();
    }

    private void go() {
        if (random.nextInt(8) > 0) {
            setUp();
        }
        // The object is used for 512 calls; one step makes at most some 65 of them.
        while (!isWrong && calls.size() < CALLS - 65) {
            step();
        }
        while (!isWrong && calls.size() < CALLS) {
            ask();
        }
    }

    private void setUp() {
        int committees = 2 + random.nextInt(5);
        for (int i = 0; i < committees; i++) {
            call("addCommittee", 1 + random.nextInt(9));
        }
        int tails = 1 + random.nextInt(8);
        for (int i = 0; i < tails; i++) {
            call("addTail", 1 + random.nextInt(9));
        }
    }

    private void step() {
        int kind = random.nextInt(20);
        if (kind < 6) {
            ask();
        } else if (kind < 9) {
            passMotion();
        } else if (kind < 17) {
            change();
        } else if (kind < 18) {
            type(commandText());
            call("run");
        } else if (kind < 19) {
            call(pick("undo", "undo", "undo", "save", "restore"));
        } else {
            call("append", SIGNS.charAt(random.nextInt(SIGNS.length())));
        }
    }

    private void ask() {
        switch (random.nextInt(8)) {
            case 0 -> call(pick(OF_COMMITTEE), committee());
            case 1 -> call(pick(OF_TAIL), tail());
            case 2, 3 -> call(pick(OF_MOTION), motion());
            case 4 -> call(pick("arrearsAfter", "arrearsAfterByRate"), committee(), random.nextInt(27) - 1);
            case 5 -> call("motionAt", random.nextInt(10) - 1);
            case 6 -> call("lineAt", random.nextInt(14) - 1);
            default -> call(pick(QUESTIONS));
        }
    }

    private void change() {
        switch (random.nextInt(16)) {
            case 0 -> call("addCommittee", random.nextInt(11));
            case 1 -> call("addTail", random.nextInt(11));
            case 2, 3 -> call("pay", committee(), random.nextInt(30));
            case 4, 5 -> settle();
            case 6 -> call(pick("moveToRent", "moveToReturn"), committee(), tail());
            case 7 -> call("moveToGround", committee(), committee());
            case 8, 9 -> call("second", committee(), motion());
            case 10 -> call("untable", motion());
            case 11 -> call("withdraw", motion());
            case 12 -> call("vote", motion());
            case 13 -> call("gust", random.nextInt(23) - 1);
            default -> call("pass", random.nextInt(4) > 0 ? 1 + random.nextInt(3) : random.nextInt(15) - 1);
        }
    }

    /** A motion that is likely to be carried, so that tails are rented and kites are grounded. */
    private void passMotion() {
        int mover = committee();
        int kind = random.nextInt(8);
        String name = kind < 5 ? "moveToRent" : kind < 7 ? "moveToReturn" : "moveToGround";
        Object id = call(name, mover, kind < 7 ? tail() : committee());
        if (id instanceof Integer motion) {
            call("second", committee(), motion);
            call("vote", motion);
        }
    }

    private void settle() {
        int committee = committee();
        if (call("arrears", committee) instanceof Integer owed && owed > 0) {
            call("pay", committee, owed);
        }
        call("launch", committee);
    }

    private String commandText() {
        StringBuilder text = new StringBuilder();
        int commands = 1 + random.nextInt(5);
        for (int i = 0; i < commands; i++) {
            text.append(i == 0 ? "" : ";").append(command());
        }
        if (random.nextInt(4) == 0) {
            text.setCharAt(random.nextInt(text.length()), SIGNS.charAt(random.nextInt(SIGNS.length())));
        }
        if (random.nextInt(6) == 0) {
            text.setLength(random.nextInt(text.length() + 1));
        }
        return text.length() > 62 ? text.substring(0, 62) : text.toString();
    }

    private String command() {
        String keyword = pick(KEYWORDS);
        int digit = random.nextInt(7);
        return keyword + switch (keyword) {
            case "pay " -> digit + " " + random.nextInt(20);
            case "second " -> digit + " " + Math.max(0, motion());
            case "rent ", "return " -> digit + "" + random.nextInt(8);
            case "ground " -> digit + "" + random.nextInt(6);
            case "untable ", "withdraw ", "vote " -> "" + Math.max(0, motion());
            case "gust " -> "" + random.nextInt(22);
            case "pass " -> "" + random.nextInt(4);
            default -> "" + digit;
        };
    }

    private void type(String text) {
        for (int i = 0; i < text.length(); i++) {
            call("append", text.charAt(i));
        }
    }

    private int committee() {
        return random.nextInt(12) == 0 ? random.nextInt(9) - 1
                : random.nextInt(Math.max(1, model.committeeCount()));
    }

    private int tail() {
        return random.nextInt(12) == 0 ? random.nextInt(11) - 1
                : random.nextInt(Math.max(1, model.tailCount()));
    }

    private int motion() {
        return random.nextInt(12) == 0 || model.openMotions() == 0 ? random.nextInt(40) - 1
                : model.motionAt(random.nextInt(model.openMotions()));
    }

    private String pick(String... names) {
        return names[random.nextInt(names.length)];
    }

    /** Makes the call on both; answers what the class answered. */
    private Object call(String name, Object... arguments) {
        if (isWrong || calls.size() >= CALLS) {
            return "no call";
        }
        Object due = answer(model, name, arguments);
        Object got = answer(rental, name, arguments);
        calls.add(name + List.of(arguments));
        if (!got.equals(due)) {
            isWrong = true;
            List<String> last = calls.subList(Math.max(0, calls.size() - 12), calls.size());
            Check.fail("answered " + got + ", due is " + due + " at the end of " + last);
        }
        return got;
    }

    /** The answer of a call, or the class of the exception that it throws. */
    private static Object answer(Object target, String name, Object... arguments) {
        Class<?>[] types = new Class<?>[arguments.length];
        for (int i = 0; i < types.length; i++) {
            types[i] = arguments[i] instanceof Character ? char.class : int.class;
        }
        try {
            Method method = target.getClass().getMethod(name, types);
            return method.invoke(target, arguments);
        } catch (InvocationTargetException e) {
            return e.getCause().getClass();
        } catch (ReflectiveOperationException e) {
            throw new IllegalStateException(e);
        }
    }
}
