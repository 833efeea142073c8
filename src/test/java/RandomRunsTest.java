import java.util.ArrayList;
import java.util.List;
import java.util.Random;
import java.util.function.Supplier;

/** Runs of 512 calls, the same at each time, each call answered by the program and by the plain office. */
public final class RandomRunsTest {
    private static final int RUNS = 1500;
    private static final int CALLS = 512;

    private final Random random;
    private final WayMarker x = new WayMarker();
    private final PlainOffice y = new PlainOffice();
    private final List<String> calls = new ArrayList<>();
    private final int mostMinutes;
    // A crowded run begins with much of everything, and has more of what keeps rangers on their ways.
    private final boolean isCrowded;
    private int forks = 0;
    private int trails = 0;
    private int boards = 0;
    private int tasks = 0;
    private boolean isRight = true;

    private RandomRunsTest(int seed) {
        random = new Random(seed);
        mostMinutes = seed % 3 == 0 ? 300 : seed % 3 == 1 ? 60 : 8;
        isCrowded = seed % 5 == 0;
    }

    public static void main(String[] args) {
        Checks checks = new Checks();
        for (int seed = 0; seed < RUNS; seed++) {
            RandomRunsTest run = new RandomRunsTest(seed);
            run.go(seed);
            checks.yes("run " + seed, run.isRight);
        }
        checks.end();
    }

    private void go(int seed) {
        int first = seed % 4 == 0 ? 3 : 4 + random.nextInt(10);
        for (int fork = 0; fork < first; fork++) {
            addFork();
        }
        for (int trail = random.nextInt(first * 2 + 2); trail >= 0; trail--) {
            addTrail();
        }
        if (isCrowded) {
            settle();
        }
        while (calls.size() < CALLS && isRight) {
            call(isCrowded && random.nextInt(3) == 0 ? crowding() : random.nextInt(100));
        }
    }

    private void settle() {
        for (int trail = random.nextInt(20); trail >= 0; trail--) {
            addTrail();
        }
        both("addWood(30)", () -> x.addWood(30), () -> y.addWood(30));
        for (int board = random.nextInt(80); board >= 0; board--) {
            makeBoard();
        }
        for (int ranger = 0; ranger < 3; ranger++) {
            ranger();
        }
    }

    /** The dice of a call that makes tasks, lets a day pass, or tells of a storm. */
    private int crowding() {
        int[] dice = {6, 60, 60, 80};
        return dice[random.nextInt(dice.length)];
    }

    private void call(int dice) {
        if (dice < 3) {
            addFork();
        } else if (dice < 6) {
            addTrail();
        } else if (dice < 12) {
            int trail = number(trails);
            both("washOut(" + trail + ")", () -> x.washOut(trail), () -> y.washOut(trail));
        } else if (dice < 16) {
            ways();
        } else if (dice < 25) {
            makeBoard();
        } else if (dice < 31) {
            askBoard();
        } else if (dice < 55) {
            report();
        } else if (dice < 60) {
            askWalkers();
        } else if (dice < 70) {
            makeTasks();
        } else if (dice < 76) {
            askTask();
        } else if (dice < 80) {
            ranger();
        } else if (dice < 87) {
            both("day()", x::day, y::day);
        } else if (dice < 90) {
            maps();
        } else if (dice < 93) {
            figures();
        } else {
            deepLook();
        }
    }

    /** Mostly a number that there is, now and then one beside those. */
    private int number(int count) {
        int dice = random.nextInt(30);
        if (dice == 0) {
            return -1;
        }
        if (dice == 1) {
            return count;
        }
        if (dice == 2) {
            return random.nextInt();
        }
        return count == 0 ? 0 : random.nextInt(count);
    }

    private void addFork() {
        boolean isPlace = random.nextInt(3) > 0;
        if (both("addFork(" + isPlace + ")", () -> x.addFork(isPlace), () -> y.addFork(isPlace))) {
            forks++;
        }
    }

    private int someMinutes() {
        return random.nextInt(25) == 0 ? random.nextInt(304) - 1 : 1 + random.nextInt(mostMinutes);
    }

    private void addTrail() {
        int from = number(forks);
        int to = number(forks);
        int forth = someMinutes();
        int back = random.nextBoolean() ? forth : someMinutes();
        if (both("addTrail(" + from + ", " + to + ", " + forth + ", " + back + ")",
                () -> x.addTrail(from, to, forth, back), () -> y.addTrail(from, to, forth, back))) {
            trails++;
        }
    }

    private void ways() {
        int from = number(forks);
        int to = number(forks);
        boolean isTrue = random.nextBoolean();
        both("minutes(" + from + ", " + to + ", " + isTrue + ")",
            () -> x.minutes(from, to, isTrue), () -> y.minutes(from, to, isTrue));
        both("firstTrail(" + from + ", " + to + ")", () -> x.firstTrail(from, to), () -> y.firstTrail(from, to));
        int trail = number(trails);
        both("isGone(" + trail + ", " + isTrue + ")", () -> x.isGone(trail, isTrue), () -> y.isGone(trail, isTrue));
    }

    private void makeBoard() {
        int fork = number(forks);
        int place = number(forks);
        if (both("cut(" + fork + ", " + place + ")", () -> x.cut(fork, place), () -> y.cut(fork, place))) {
            boards++;
        }
        if (random.nextInt(4) == 0) {
            int wood = random.nextInt(8) == 0 ? random.nextInt(104) - 2 : 1 + random.nextInt(4);
            both("addWood(" + wood + ")", () -> x.addWood(wood), () -> y.addWood(wood));
        }
    }

    private void askBoard() {
        int board = number(boards);
        boolean isTrue = random.nextBoolean();
        both("trailOf(" + board + ")", () -> x.trailOf(board), () -> y.trailOf(board));
        both("told(" + board + ")", () -> x.told(board), () -> y.told(board));
        both("isCovered(" + board + ")", () -> x.isCovered(board), () -> y.isCovered(board));
        both("danger(" + board + ", " + isTrue + ")", () -> x.danger(board, isTrue), () -> y.danger(board, isTrue));
        both("unsafe(" + isTrue + ")", () -> x.unsafe(isTrue), () -> y.unsafe(isTrue));
    }

    private void report() {
        int trail = number(trails);
        boolean isGone = isCrowded && trail >= 0 && trail < trails ? y.isGone(trail, true) : random.nextBoolean();
        for (int more = random.nextInt(4); more >= 0; more--) {
            int walker = number(10);
            boolean says = random.nextInt(5) == 0 ? !isGone : isGone;
            both("report(" + walker + ", " + trail + ", " + says + ")",
                () -> x.report(walker, trail, says), () -> y.report(walker, trail, says));
        }
    }

    private void askWalkers() {
        int walker = number(10);
        both("trust(" + walker + ")", () -> x.trust(walker), () -> y.trust(walker));
        int trail = number(trails);
        both("reports(" + trail + ")", () -> x.reports(trail), () -> y.reports(trail));
    }

    private void makeTasks() {
        if (random.nextInt(5) < 2) {
            both("plan()", x::plan, y::plan);
            return;
        }
        char kind = random.nextInt(20) == 0 ? "cuRMx".charAt(random.nextInt(5)) : random.nextBoolean() ? 'm' : 'r';
        int number = number(kind == 'm' ? trails : boards);
        int danger = random.nextInt(15) == 0 ? random.nextInt(1010) - 5 : random.nextInt(4) * 40;
        if (both("addTask(" + kind + ", " + number + ", " + danger + ")",
                () -> x.addTask(kind, number, danger), () -> y.addTask(kind, number, danger))) {
            tasks++;
        }
    }

    private void askTask() {
        int task = number(Math.min(40, tasks + boards));
        both("kindOf(" + task + ")", () -> (int) x.kindOf(task), () -> (int) y.kindOf(task));
        both("numberOf(" + task + ")", () -> x.numberOf(task), () -> y.numberOf(task));
        both("doneBy(" + task + ")", () -> x.doneBy(task), () -> y.doneBy(task));
        both("openTasks()", x::openTasks, y::openTasks);
    }

    private void ranger() {
        int fork = number(forks);
        int tools = random.nextInt(10) == 0 ? random.nextInt(7) - 1 : random.nextInt(4);
        both("addRanger(" + fork + ", " + tools + ")", () -> x.addRanger(fork, tools), () -> y.addRanger(fork, tools));
        int ranger = number(4);
        both("forkOf(" + ranger + ")", () -> x.forkOf(ranger), () -> y.forkOf(ranger));
        both("worked(" + ranger + ")", () -> x.worked(ranger), () -> y.worked(ranger));
    }

    private void maps() {
        if (random.nextInt(3) == 0) {
            both("print()", x::print, y::print);
        }
        int map = number(4);
        int trail = number(trails);
        both("shows(" + map + ", " + trail + ")", () -> x.shows(map, trail), () -> y.shows(map, trail));
        both("age(" + map + ")", () -> x.age(map), () -> y.age(map));
    }

    private void figures() {
        both("knownShare()", x::knownShare, y::knownShare);
        both("meanDanger()", x::meanDanger, y::meanDanger);
        both("isSound()", x::isSound, y::isSound);
    }

    /** Asks all of one kind at once, so that nothing that went wrong stays hidden. */
    private void deepLook() {
        for (int walker = 0; walker < 10; walker++) {
            int asked = walker;
            both("trust(" + asked + ")", () -> x.trust(asked), () -> y.trust(asked));
        }
        for (int ranger = 0; ranger < 4; ranger++) {
            int asked = ranger;
            both("forkOf(" + asked + ")", () -> x.forkOf(asked), () -> y.forkOf(asked));
            both("worked(" + asked + ")", () -> x.worked(asked), () -> y.worked(asked));
        }
    }

    /** Returns whether the call answered, and did not throw. */
    private <T> boolean both(String call, Supplier<T> program, Supplier<T> plain) {
        if (!isRight || calls.size() >= CALLS) {
            return false;
        }
        String got = answer(program);
        String due = answer(plain);
        calls.add(call + " " + due);
        if (!got.equals(due)) {
            isRight = false;
            System.out.println(String.join("\n", calls) + "\n  answered " + got);
        }
        return !due.startsWith("throws");
    }

    private static <T> String answer(Supplier<T> call) {
        try {
            return String.valueOf(call.get());
        } catch (RuntimeException e) {
            return "throws " + e.getClass().getName();
        }
    }
}
