import java.util.ArrayList;
import java.util.Comparator;
import java.util.List;
import java.util.NoSuchElementException;
import java.util.function.Predicate;
import java.util.regex.Matcher;
import java.util.regex.Pattern;

/**
 * The document told a second time, with the means of the Java library and without regard to cost:
 * ModelTest compares its answers with those of the class.
 */
public final class Model {
    private static final Pattern COMMAND = Pattern.compile(
            "(committee|tail|launch) [0-9]|(pay|second) [0-9] [0-9]{1,3}|(rent|return|ground) [0-9][0-9]"
                    + "|(untable|withdraw|vote|gust|pass) [0-9]{1,3}");
    private static final Pattern TEXT = Pattern.compile(
            "(" + COMMAND.pattern() + ")(;(" + COMMAND.pattern() + "))*");

    private record Committee(int members, int arrears, boolean flying) {
        Committee owing(int coins) {
            return new Committee(members, coins, flying);
        }

        Committee flying(boolean flies) {
            return new Committee(members, arrears, flies);
        }
    }

    private record Tail(int length, int renter) {
    }

    private record Motion(int id, char kind, int mover, int object, int seconder, boolean tabled) {
        Motion seconded(int committee) {
            return new Motion(id, kind, mover, object, committee, tabled);
        }

        Motion tabled(boolean isTabled) {
            return new Motion(id, kind, mover, object, seconder, isTabled);
        }
    }

    /** All that changes can change. Its parts never change, so a copy of the lists is a copy. */
    private static final class World {
        List<Committee> committees = new ArrayList<>();
        List<Tail> tails = new ArrayList<>();
        List<Motion> motions = new ArrayList<>();
        int nextId;
        int hour;
        int carried;
        int lost;
        int paid;
        int charged;

        World copy() {
            World copy = new World();
            copy.committees.addAll(committees);
            copy.tails.addAll(tails);
            copy.motions.addAll(motions);
            copy.nextId = nextId;
            copy.hour = hour;
            copy.carried = carried;
            copy.lost = lost;
            copy.paid = paid;
            copy.charged = charged;
            return copy;
        }
    }

    private World now = new World();
    private final List<World> past = new ArrayList<>();
    private World saved = null;
    private String text = "";
    private String line = "";
    private Integer error = null;
    private Integer failed = null;
    private Integer failure = null;

    // ---- committees and tails

    public int addCommittee(int members) {
        refuse(members < 1 || members > 9, new IllegalArgumentException());
        refuse(now.committees.size() == 6, new IllegalStateException());
        remember();
        now.committees.add(new Committee(members, 0, true));
        return now.committees.size() - 1;
    }

    public int addTail(int length) {
        refuse(length < 1 || length > 9, new IllegalArgumentException());
        refuse(now.tails.size() == 8, new IllegalStateException());
        remember();
        now.tails.add(new Tail(length, -1));
        return now.tails.size() - 1;
    }

    public int pay(int committee, int coins) {
        Committee payer = committee(committee);
        refuse(coins < 1 || coins > 99, new IllegalArgumentException());
        refuse(coins > payer.arrears, new UnsupportedOperationException());
        remember();
        now.committees.set(committee, payer.owing(payer.arrears - coins));
        now.paid += coins;
        return payer.arrears - coins;
    }

    public int launch(int committee) {
        Committee launched = committee(committee);
        refuse(launched.flying || launched.arrears > 0, new IllegalStateException());
        remember();
        now.committees.set(committee, launched.flying(true));
        return (int) now.committees.stream().filter(Committee::flying).count();
    }

    public int committeeCount() {
        return now.committees.size();
    }

    public int members(int committee) {
        return committee(committee).members;
    }

    public int arrears(int committee) {
        return committee(committee).arrears;
    }

    public boolean isFlying(int committee) {
        return committee(committee).flying;
    }

    public int tailLength(int committee) {
        committee(committee);
        return now.tails.stream().filter(t -> t.renter == committee).mapToInt(Tail::length).sum();
    }

    public int tailsOf(int committee) {
        committee(committee);
        return (int) now.tails.stream().filter(t -> t.renter == committee).count();
    }

    public int tailCount() {
        return now.tails.size();
    }

    public int length(int tail) {
        return tail(tail).length;
    }

    public boolean isFree(int tail) {
        return tail(tail).renter < 0;
    }

    public int renterOf(int tail) {
        refuse(tail(tail).renter < 0, new NoSuchElementException());
        return tail(tail).renter;
    }

    public int shortestFreeTail() {
        Tail best = now.tails.stream().filter(t -> t.renter < 0)
                .min(Comparator.comparingInt(Tail::length)).orElse(null);
        refuse(best == null, new NoSuchElementException());
        return now.tails.indexOf(best);
    }

    // ---- motions

    public int moveToRent(int mover, int tail) {
        committee(mover);
        tail(tail);
        return move('r', mover, tail);
    }

    public int moveToReturn(int mover, int tail) {
        committee(mover);
        tail(tail);
        return move('t', mover, tail);
    }

    public int moveToGround(int mover, int target) {
        committee(mover);
        committee(target);
        return move('g', mover, target);
    }

    private int move(char kind, int mover, int object) {
        refuse(now.motions.size() == 8, new IllegalStateException());
        remember();
        now.motions.add(new Motion(now.nextId, kind, mover, object, -1, false));
        return now.nextId++;
    }

    public int second(int committee, int motion) {
        committee(committee);
        Motion seconded = motion(motion);
        refuse(seconded.mover == committee, new IllegalArgumentException());
        refuse(seconded.seconder >= 0, new IllegalStateException());
        remember();
        replace(seconded, seconded.seconded(committee));
        return (int) now.motions.stream().filter(m -> m.seconder >= 0).count();
    }

    public int untable(int motion) {
        Motion tabled = motion(motion);
        refuse(!tabled.tabled, new IllegalStateException());
        remember();
        replace(tabled, tabled.tabled(false));
        charge(tabled.mover, 1);
        return arrears(tabled.mover);
    }

    public int withdraw(int motion) {
        Motion withdrawn = motion(motion);
        remember();
        now.motions.remove(withdrawn);
        return now.motions.size();
    }

    public boolean vote(int motion) {
        Motion voted = motion(motion);
        refuse(voted.seconder < 0 || voted.tabled, new IllegalStateException());
        boolean carried = votesFor(motion) > votesAgainst(motion) && isPossible(voted);
        remember();
        now.motions.remove(voted);
        if (!carried) {
            now.lost++;
            return false;
        }
        now.carried++;
        if (voted.kind == 'g') {
            ground(voted.object);
        } else {
            int renter = voted.kind == 'r' ? voted.mover : -1;
            now.tails.set(voted.object, new Tail(length(voted.object), renter));
        }
        return true;
    }

    private boolean isPossible(Motion motion) {
        return switch (motion.kind) {
            case 'r' -> isFree(motion.object) && isFlying(motion.mover);
            case 't' -> tail(motion.object).renter == motion.mover;
            default -> isFlying(motion.object);
        };
    }

    public int openMotions() {
        return now.motions.size();
    }

    public int motionAt(int position) {
        refuse(position < 0 || position >= now.motions.size(), new IndexOutOfBoundsException());
        return now.motions.get(position).id;
    }

    public int moverOf(int motion) {
        return motion(motion).mover;
    }

    public boolean isSeconded(int motion) {
        return motion(motion).seconder >= 0;
    }

    public int seconderOf(int motion) {
        refuse(motion(motion).seconder < 0, new IllegalStateException());
        return motion(motion).seconder;
    }

    public boolean isTabled(int motion) {
        return motion(motion).tabled;
    }

    public int votesFor(int motion) {
        return votes(motion(motion), 1);
    }

    public int votesForByMember(int motion) {
        return votes(motion(motion), 1);
    }

    public int votesAgainst(int motion) {
        return votes(motion(motion), -1);
    }

    private int votes(Motion motion, int way) {
        int sum = 0;
        for (int c = 0; c < now.committees.size(); c++) {
            Committee voter = committee(c);
            int voice = voter.arrears <= arrears(motion.mover) ? 1 : -1;
            voice = voter.flying ? voice : 0;
            voice = c == motion.mover || c == motion.seconder ? 1 : voice;
            sum += voice == way ? voter.members : 0;
        }
        return sum;
    }

    // ---- gusts and hours

    public int gust(int strength) {
        refuse(strength < 0 || strength > 20, new IllegalArgumentException());
        remember();
        Predicate<Motion> falls =
                m -> !m.tabled && isFlying(m.mover) && tailLength(m.mover) < strength;
        int count = (int) now.motions.stream().filter(falls).count();
        now.motions.replaceAll(m -> falls.test(m) ? m.tabled(true) : m);
        return count;
    }

    public int pass(int hours) {
        refuse(hours < 1 || hours > 12, new IllegalArgumentException());
        remember();
        long before = now.committees.stream().filter(Committee::flying).count();
        passHours(hours);
        return (int) (before - now.committees.stream().filter(Committee::flying).count());
    }

    private void passHours(int hours) {
        for (int i = 0; i < hours; i++) {
            for (int c = 0; c < now.committees.size(); c++) {
                charge(c, tailLength(c));
            }
            for (int c = 0; c < now.committees.size(); c++) {
                if (isFlying(c) && arrears(c) > 30) {
                    ground(c);
                }
            }
            now.hour++;
        }
    }

    public int arrearsAfter(int committee, int hours) {
        committee(committee);
        refuse(hours < 0 || hours > 24, new IllegalArgumentException());
        World kept = now;
        now = kept.copy();
        passHours(hours);
        int answer = arrears(committee);
        now = kept;
        return answer;
    }

    public int arrearsAfterByRate(int committee, int hours) {
        return arrearsAfter(committee, hours);
    }

    public int hour() {
        return now.hour;
    }

    public int committeeAtRank(int rank) {
        refuse(rank < 0 || rank >= now.committees.size(), new NoSuchElementException());
        List<Integer> numbers = new ArrayList<>();
        for (int c = 0; c < now.committees.size(); c++) {
            numbers.add(c);
        }
        numbers.sort(Comparator.comparingInt((Integer c) -> -arrears(c))
                .thenComparingInt(c -> -members(c)).thenComparingInt(c -> c));
        return numbers.get(rank);
    }

    // ---- totals

    public int carriedCount() {
        return now.carried;
    }

    public int lostCount() {
        return now.lost;
    }

    public int paidTotal() {
        return now.paid;
    }

    public int chargedTotal() {
        return now.charged;
    }

    // ---- commands

    public int append(char character) {
        refuse(character < ' ' || character > '~', new IllegalArgumentException());
        refuse(text.length() == 60, new IllegalStateException());
        text += character;
        return text.length();
    }

    public int run() {
        String typed = text;
        text = "";
        if (!TEXT.matcher(typed).matches()) {
            error = errorIn(typed);
            throw new IllegalArgumentException();
        }
        World before = now.copy();
        List<World> pastBefore = new ArrayList<>(past);
        String[] commands = typed.split(";");
        for (int i = 0; i < commands.length; i++) {
            int fault = carryOut(commands[i]);
            if (fault > 0) {
                now = before;
                past.clear();
                past.addAll(pastBefore);
                failed = i;
                failure = fault;
                throw new IllegalStateException();
            }
        }
        past.clear();
        past.addAll(pastBefore);
        keep(before);
        return commands.length;
    }

    private static int errorIn(String typed) {
        for (int length = 1; length <= typed.length(); length++) {
            Matcher matcher = TEXT.matcher(typed.substring(0, length));
            if (!matcher.matches() && !matcher.hitEnd()) {
                return length - 1;
            }
        }
        return typed.length();
    }

    /** Answers the position of the exception in the throws list, or 0. */
    private int carryOut(String command) {
        String[] words = command.split(" ");
        boolean twoDigits = words[0].matches("rent|return|ground");
        int first = Integer.parseInt(twoDigits ? words[1].substring(0, 1) : words[1]);
        int last = Integer.parseInt(twoDigits ? words[1].substring(1) : words[words.length - 1]);
        try {
            switch (words[0]) {
                case "committee" -> addCommittee(first);
                case "tail" -> addTail(first);
                case "pay" -> pay(first, last);
                case "launch" -> launch(first);
                case "rent" -> moveToRent(first, last);
                case "return" -> moveToReturn(first, last);
                case "ground" -> moveToGround(first, last);
                case "second" -> second(first, last);
                case "untable" -> untable(first);
                case "withdraw" -> withdraw(first);
                case "vote" -> vote(first);
                case "gust" -> gust(first);
                default -> pass(first);
            }
            return 0;
        } catch (RuntimeException e) {
            return throwsList(words[0]).indexOf(e.getClass()) + 1;
        }
    }

    private static List<Class<?>> throwsList(String command) {
        Class<?> bounds = IndexOutOfBoundsException.class;
        Class<?> argument = IllegalArgumentException.class;
        Class<?> state = IllegalStateException.class;
        Class<?> none = NoSuchElementException.class;
        return switch (command) {
            case "committee", "tail" -> List.of(argument, state);
            case "pay" -> List.of(bounds, argument, UnsupportedOperationException.class);
            case "second" -> List.of(bounds, none, argument, state);
            case "untable", "vote" -> List.of(none, state);
            case "withdraw" -> List.of(none);
            case "gust", "pass" -> List.of(argument);
            default -> List.of(bounds, state);
        };
    }

    public int errorPosition() {
        refuse(error == null, new NoSuchElementException());
        return error;
    }

    public int failedCommand() {
        refuse(failed == null, new NoSuchElementException());
        return failed;
    }

    public int failedException() {
        refuse(failure == null, new NoSuchElementException());
        return failure;
    }

    // ---- line, statistics, undo, snapshot

    public int describeCommittee(int committee) {
        Committee described = committee(committee);
        String owed = described.arrears > 0 ? "-" + described.arrears : "";
        StringBuilder tails = new StringBuilder();
        for (int t = 0; t < now.tails.size(); t++) {
            tails.append(tail(t).renter == committee ? "~" + t : "");
        }
        line = committee + "/" + described.members + (described.flying ? "^" : "_") + owed + tails;
        return line.length();
    }

    public int describeMotion(int motion) {
        Motion m = motion(motion);
        String seconder = m.seconder < 0 ? "" : "+" + m.seconder;
        line = "#" + m.id + m.kind + m.object + ":" + m.mover + seconder + (m.tabled ? "!" : "");
        return line.length();
    }

    public char lineAt(int index) {
        refuse(index < 0 || index >= line.length(), new IndexOutOfBoundsException());
        return line.charAt(index);
    }

    public double meanArrears() {
        refuse(now.committees.isEmpty(), new ArithmeticException());
        return now.committees.stream().mapToInt(Committee::arrears).average().orElseThrow();
    }

    public float rentedShare() {
        refuse(now.tails.isEmpty(), new ArithmeticException());
        return (float) now.tails.stream().filter(t -> t.renter >= 0).count() / now.tails.size();
    }

    public boolean isConsistent() {
        return true;
    }

    public int undo() {
        refuse(past.isEmpty(), new IllegalStateException());
        now = past.remove(past.size() - 1);
        return past.size();
    }

    public int save() {
        saved = now.copy();
        return now.motions.size();
    }

    public int restore() {
        refuse(saved == null, new IllegalStateException());
        now = saved.copy();
        past.clear();
        return now.motions.size();
    }

    // ---- what several methods share

    private static void refuse(boolean isRefused, RuntimeException exception) {
        if (isRefused) {
            throw exception;
        }
    }

    private void remember() {
        keep(now.copy());
    }

    private void keep(World world) {
        past.add(world);
        if (past.size() > 8) {
            past.remove(0);
        }
    }

    private Committee committee(int number) {
        refuse(number < 0 || number >= now.committees.size(), new IndexOutOfBoundsException());
        return now.committees.get(number);
    }

    private Tail tail(int number) {
        refuse(number < 0 || number >= now.tails.size(), new IndexOutOfBoundsException());
        return now.tails.get(number);
    }

    private Motion motion(int id) {
        Motion found = now.motions.stream().filter(m -> m.id == id).findAny().orElse(null);
        refuse(found == null, new NoSuchElementException());
        return found;
    }

    private void replace(Motion old, Motion fresh) {
        now.motions.replaceAll(m -> m == old ? fresh : m);
    }

    private void charge(int committee, int coins) {
        now.committees.set(committee, committee(committee).owing(arrears(committee) + coins));
        now.charged += coins;
    }

    private void ground(int committee) {
        now.committees.set(committee, committee(committee).flying(false));
        now.tails.replaceAll(t -> t.renter == committee ? new Tail(t.length, -1) : t);
    }
}
