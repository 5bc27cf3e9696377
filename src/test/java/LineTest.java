import java.util.NoSuchElementException;

/** Promises 48 to 50: the line. */
public final class LineTest {
    private static final Class<IndexOutOfBoundsException> BOUNDS = IndexOutOfBoundsException.class;
    private static final Class<NoSuchElementException> NONE = NoSuchElementException.class;

    public static void main(String[] args) {
        Check.test("48 describeCommittee", LineTest::committee);
        Check.test("48 the example of the document", LineTest::committeeExample);
        Check.test("48 the longest line of a committee", LineTest::longest);
        Check.test("48 describeCommittee refuses", LineTest::committeeRefuses);
        Check.test("49 describeMotion", LineTest::motion);
        Check.test("49 the example of the document", LineTest::motionExample);
        Check.test("49 describeMotion refuses", LineTest::motionRefuses);
        Check.test("50 lineAt", LineTest::lineAt);
        Check.test("50 the line stays as it was written", LineTest::lineStays);
        Check.end();
    }

    private static void committee() {
        KiteTailRental x = Scene.committees(5, 9, 2);
        Scene.owe(x, 2, 1);
        Check.same("with arrears of 1", Scene.committeeLine(x, 2), "6:2/2^-1");
        Scene.tails(x, 3, 4);
        Check.same("committee 0", Scene.committeeLine(x, 0), "4:0/5^");
        Check.same("committee 1", Scene.committeeLine(x, 1), "4:1/9^");
        Scene.rent(x, 1, 0, 1);
        Check.same("with a tail", Scene.committeeLine(x, 1), "6:1/9^~1");
        Scene.rent(x, 1, 0, 0);
        Check.same("with two tails", Scene.committeeLine(x, 1), "8:1/9^~0~1");
        Check.same("the other one", Scene.committeeLine(x, 0), "4:0/5^");
        x.pass(1);
        Check.same("with arrears", Scene.committeeLine(x, 1), "10:1/9^-7~0~1");
        x.pass(4);
        Check.same("grounded", Scene.committeeLine(x, 1), "7:1/9_-35");
        x.pay(1, 35);
        Check.same("grounded, without arrears", Scene.committeeLine(x, 1), "4:1/9_");
    }

    private static void committeeExample() {
        KiteTailRental x = Scene.committees(1, 1, 5);
        Scene.tails(x, 4, 9, 9, 2);
        Scene.rent(x, 2, 0, 3);
        Scene.rent(x, 2, 0, 0);
        x.pass(2);
        Check.same("the example", Scene.committeeLine(x, 2), "11:2/5^-12~0~3");
    }

    private static void longest() {
        KiteTailRental x = Scene.committees(9, 9, 9, 9, 9, 9);
        Scene.owe(x, 5, 101);
        Scene.tails(x, 1, 1, 1, 1, 1, 1, 1, 1);
        for (int tail = 7; tail >= 0; tail--) {
            int motion = x.moveToRent(5, tail);
            x.second(0, motion);
            x.vote(motion);
        }
        Check.same("all of it", Scene.committeeLine(x, 5), "24:5/9^-101~0~1~2~3~4~5~6~7");
    }

    private static void committeeRefuses() {
        KiteTailRental x = Scene.committees(5, 9);
        x.describeCommittee(1);
        for (int wrong : new int[] {-1, 2, 6, Integer.MAX_VALUE, Integer.MIN_VALUE}) {
            Check.fails("describeCommittee(" + wrong + ")", BOUNDS, () -> x.describeCommittee(wrong));
        }
        Check.same("the line after refusals", Scene.line(x), "1/9^");
    }

    private static void motion() {
        KiteTailRental x = Scene.committees(5, 9, 1);
        Scene.tails(x, 3, 4);
        x.moveToRent(0, 1);
        x.moveToReturn(1, 0);
        x.moveToGround(2, 2);
        Check.same("to rent", Scene.motionLine(x, 0), "6:#0r1:0");
        Check.same("to return", Scene.motionLine(x, 1), "6:#1t0:1");
        Check.same("to ground", Scene.motionLine(x, 2), "6:#2g2:2");
        x.second(0, 1);
        Check.same("with a seconder", Scene.motionLine(x, 1), "8:#1t0:1+0");
        x.gust(1);
        Check.same("tabled", Scene.motionLine(x, 0), "7:#0r1:0!");
        Check.same("with a seconder, tabled", Scene.motionLine(x, 1), "9:#1t0:1+0!");
        x.untable(0);
        Check.same("taken up", Scene.motionLine(x, 0), "6:#0r1:0");
    }

    private static void motionExample() {
        KiteTailRental x = Scene.committees(5, 9, 1);
        Scene.tails(x, 1, 1, 1, 1);
        for (int id = 0; id < 12; id++) {
            x.withdraw(x.moveToGround(0, 0));
        }
        x.moveToRent(0, 3);
        x.second(2, 12);
        x.gust(1);
        Check.same("the example", Scene.motionLine(x, 12), "10:#12r3:0+2!");
        x.withdraw(12);
        for (int id = 13; id < 100; id++) {
            x.withdraw(x.moveToGround(0, 0));
        }
        x.moveToReturn(1, 2);
        Check.same("an id of three digits", Scene.motionLine(x, 100), "8:#100t2:1");
    }

    private static void motionRefuses() {
        KiteTailRental x = Scene.committees(5, 9);
        x.moveToGround(0, 1);
        x.moveToGround(1, 1);
        x.describeMotion(0);
        x.withdraw(0);
        for (int wrong : new int[] {0, 2, -1, Integer.MAX_VALUE, Integer.MIN_VALUE}) {
            Check.fails("describeMotion(" + wrong + ")", NONE, () -> x.describeMotion(wrong));
        }
        Check.same("the line after refusals", Scene.line(x), "#0g1:0");
    }

    private static void lineAt() {
        KiteTailRental x = Scene.committees(5, 9);
        for (int wrong : new int[] {0, 1, -1, Integer.MAX_VALUE, Integer.MIN_VALUE}) {
            Check.fails("lineAt(" + wrong + ") at first", BOUNDS, () -> x.lineAt(wrong));
        }
        x.moveToGround(1, 0);
        x.second(0, 0);
        x.describeMotion(0);
        String due = "#0g0:1+0";
        for (int index = 0; index < due.length(); index++) {
            Check.same("lineAt(" + index + ")", x.lineAt(index), due.charAt(index));
        }
        Check.fails("lineAt(8), the length", BOUNDS, () -> x.lineAt(8));
        x.describeCommittee(1);
        Check.same("lineAt(3) of a shorter line", x.lineAt(3), '^');
        for (int wrong : new int[] {4, 5, 7, -1, Integer.MAX_VALUE, Integer.MIN_VALUE}) {
            Check.fails("lineAt(" + wrong + ")", BOUNDS, () -> x.lineAt(wrong));
        }
    }

    private static void lineStays() {
        KiteTailRental x = Scene.committees(5, 9);
        x.save();
        x.moveToGround(1, 0);
        x.describeMotion(0);
        x.withdraw(0);
        Check.same("after the motion is closed", Scene.line(x), "#0g0:1");
        x.undo();
        Check.same("after undo", Scene.line(x), "#0g0:1");
        x.describeCommittee(0);
        x.restore();
        Check.same("after restore", Scene.line(x), "0/5^");
        Scene.type(x, "pass 1");
        x.run();
        Check.same("after run", Scene.line(x), "0/5^");
    }
}
