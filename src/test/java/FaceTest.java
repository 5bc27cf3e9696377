import java.lang.reflect.Constructor;
import java.lang.reflect.Field;
import java.lang.reflect.Method;
import java.lang.reflect.Modifier;
import java.util.ArrayList;
import java.util.List;
import java.util.TreeSet;

/** Promises 1 to 56: the public face, with its types and exceptions, and nothing beside it. */
public final class FaceTest {
    /** "The public face" of the document, with short names of the exceptions' packages left out. */
    private static final String[] FACE = {
        "int addCommittee(int) IllegalArgumentException IllegalStateException",
        "int addTail(int) IllegalArgumentException IllegalStateException",
        "int pay(int,int) IndexOutOfBoundsException IllegalArgumentException"
                + " UnsupportedOperationException",
        "int launch(int) IndexOutOfBoundsException IllegalStateException",
        "int committeeCount()",
        "int members(int) IndexOutOfBoundsException",
        "int arrears(int) IndexOutOfBoundsException",
        "boolean isFlying(int) IndexOutOfBoundsException",
        "int tailLength(int) IndexOutOfBoundsException",
        "int tailsOf(int) IndexOutOfBoundsException",
        "int tailCount()",
        "int length(int) IndexOutOfBoundsException",
        "boolean isFree(int) IndexOutOfBoundsException",
        "int renterOf(int) IndexOutOfBoundsException NoSuchElementException",
        "int shortestFreeTail() NoSuchElementException",
        "int moveToRent(int,int) IndexOutOfBoundsException IllegalStateException",
        "int moveToReturn(int,int) IndexOutOfBoundsException IllegalStateException",
        "int moveToGround(int,int) IndexOutOfBoundsException IllegalStateException",
        "int second(int,int) IndexOutOfBoundsException NoSuchElementException"
                + " IllegalArgumentException IllegalStateException",
        "int untable(int) NoSuchElementException IllegalStateException",
        "int withdraw(int) NoSuchElementException",
        "boolean vote(int) NoSuchElementException IllegalStateException",
        "int openMotions()",
        "int motionAt(int) IndexOutOfBoundsException",
        "int moverOf(int) NoSuchElementException",
        "boolean isSeconded(int) NoSuchElementException",
        "int seconderOf(int) NoSuchElementException IllegalStateException",
        "boolean isTabled(int) NoSuchElementException",
        "int votesFor(int) NoSuchElementException",
        "int votesForByMember(int) NoSuchElementException",
        "int votesAgainst(int) NoSuchElementException",
        "int gust(int) IllegalArgumentException",
        "int pass(int) IllegalArgumentException",
        "int arrearsAfter(int,int) IndexOutOfBoundsException IllegalArgumentException",
        "int arrearsAfterByRate(int,int) IndexOutOfBoundsException IllegalArgumentException",
        "int hour()",
        "int committeeAtRank(int) NoSuchElementException",
        "int carriedCount()",
        "int lostCount()",
        "int paidTotal()",
        "int chargedTotal()",
        "int append(char) IllegalArgumentException IllegalStateException",
        "int run() IllegalArgumentException IllegalStateException",
        "int errorPosition() NoSuchElementException",
        "int failedCommand() NoSuchElementException",
        "int failedException() NoSuchElementException",
        "int describeCommittee(int) IndexOutOfBoundsException",
        "int describeMotion(int) NoSuchElementException",
        "char lineAt(int) IndexOutOfBoundsException",
        "double meanArrears() ArithmeticException",
        "float rentedShare() ArithmeticException",
        "boolean isConsistent()",
        "int undo() IllegalStateException",
        "int save()",
        "int restore() IllegalStateException",
    };

    public static void main(String[] args) {
        Check.test("1-56 the methods of the face", FaceTest::methods);
        Check.test("1 the class and its constructor", FaceTest::classAndConstructor);
        Check.test("nothing beside the face can be seen", FaceTest::nothingElse);
        Check.test("no private method bears the name of a public one", FaceTest::names);
        Check.end();
    }

    private static String signature(Method method) {
        StringBuilder text = new StringBuilder();
        text.append(method.getReturnType().getName()).append(' ').append(method.getName()).append('(');
        String comma = "";
        for (Class<?> type : method.getParameterTypes()) {
            text.append(comma).append(type.getName());
            comma = ",";
        }
        text.append(')');
        for (Class<?> exception : method.getExceptionTypes()) {
            text.append(' ').append(exception.getSimpleName());
        }
        return text.toString();
    }

    private static void methods() {
        TreeSet<String> due = new TreeSet<>(List.of(FACE));
        TreeSet<String> seen = new TreeSet<>();
        for (Method method : KiteTailRental.class.getDeclaredMethods()) {
            if (Modifier.isPublic(method.getModifiers())) {
                seen.add(signature(method));
                Check.no("static " + method.getName(), Modifier.isStatic(method.getModifiers()));
            }
        }
        for (String signature : due) {
            Check.yes("there is " + signature, seen.contains(signature));
        }
        for (String signature : seen) {
            Check.yes("the document has " + signature, due.contains(signature));
        }
    }

    private static void classAndConstructor() {
        int modifiers = KiteTailRental.class.getModifiers();
        Check.yes("the class is public", Modifier.isPublic(modifiers));
        Check.yes("the class is final", Modifier.isFinal(modifiers));
        Check.same("its package", KiteTailRental.class.getPackageName(), "");
        Constructor<?>[] constructors = KiteTailRental.class.getDeclaredConstructors();
        Check.same("constructors", constructors.length, 1);
        Check.same("its parameters", constructors[0].getParameterCount(), 0);
        Check.yes("it is public", Modifier.isPublic(constructors[0].getModifiers()));
    }

    private static void nothingElse() {
        for (Field field : KiteTailRental.class.getDeclaredFields()) {
            Check.yes(field.getName() + " is private", Modifier.isPrivate(field.getModifiers()));
        }
        for (Method method : KiteTailRental.class.getDeclaredMethods()) {
            int modifiers = method.getModifiers();
            Check.yes(method.getName() + " is public or private",
                    Modifier.isPublic(modifiers) || Modifier.isPrivate(modifiers));
        }
        for (Class<?> inside : KiteTailRental.class.getDeclaredClasses()) {
            int modifiers = inside.getModifiers();
            Check.no(inside.getName() + " is public", Modifier.isPublic(modifiers));
            Check.no(inside.getName() + " is protected", Modifier.isProtected(modifiers));
        }
    }

    private static void names() {
        List<String> open = new ArrayList<>();
        List<String> hidden = new ArrayList<>();
        for (Method method : KiteTailRental.class.getDeclaredMethods()) {
            (Modifier.isPublic(method.getModifiers()) ? open : hidden).add(method.getName());
        }
        for (String name : hidden) {
            Check.no(name + " is a name of the face", open.contains(name));
        }
    }
}
