import java.util.NoSuchElementException;

/** Promises 1 to 7: a new object, forks, trails, storms and ways. */
public final class TrailsTest {
    private static final Checks CHECKS = new Checks();

    public static void main(String[] args) {
        newObject();
        addFork();
        addTrail();
        addTrailRefuses();
        addTrailOrder();
        washOut();
        isGone();
        minutes();
        minutesOfLongWays();
        firstTrail();
        firstTrailOfSeveral();
        CHECKS.end();
    }

    private static void newObject() {
        WayMarker x = new WayMarker();
        CHECKS.refuses("a fork of a new object", IndexOutOfBoundsException.class, () -> x.minutes(0, 0, true));
        CHECKS.refuses("a trail of a new object", IndexOutOfBoundsException.class, () -> x.isGone(0, true));
        CHECKS.refuses("a board of a new object", IndexOutOfBoundsException.class, () -> x.told(0));
        CHECKS.refuses("a task of a new object", IndexOutOfBoundsException.class, () -> x.kindOf(0));
        CHECKS.refuses("a ranger of a new object", IndexOutOfBoundsException.class, () -> x.forkOf(0));
        CHECKS.refuses("a map of a new object", IndexOutOfBoundsException.class, () -> x.age(0));
        CHECKS.refuses("known share of a new object", ArithmeticException.class, () -> x.knownShare());
        CHECKS.refuses("mean danger of a new object", ArithmeticException.class, () -> x.meanDanger());
        CHECKS.same("unsafe of a new object", x.unsafe(true), 0);
        CHECKS.same("unsafe of a new object, as taken", x.unsafe(false), 0);
        CHECKS.same("open tasks of a new object", x.openTasks(), 0);
        CHECKS.same("plan of a new object", x.plan(), 0);
        CHECKS.yes("a new object is sound", x.isSound());
        for (int walker = 0; walker < 10; walker++) {
            CHECKS.same("trust at first", x.trust(walker), 50);
        }
        CHECKS.same("wood at first", x.addWood(1), 11);
        CHECKS.same("first map", x.print(), 0);
        CHECKS.same("its age", x.age(0), 0);
        WayMarker y = new WayMarker();
        y.addFork(true);
        CHECKS.refuses("objects share forks", IndexOutOfBoundsException.class, () -> x.minutes(0, 0, true));
    }

    private static void addFork() {
        WayMarker x = new WayMarker();
        for (int fork = 0; fork < 16; fork++) {
            CHECKS.same("addFork", x.addFork(fork % 2 == 0), fork);
        }
        CHECKS.refuses("a 17th fork", IllegalStateException.class, () -> x.addFork(true));
        CHECKS.refuses("a 17th fork, no place", IllegalStateException.class, () -> x.addFork(false));
        CHECKS.refuses("fork 16", IndexOutOfBoundsException.class, () -> x.minutes(16, 16, true));
        CHECKS.same("the last fork", x.minutes(15, 15, true), 0);
        x.addTrail(14, 15, 5, 5);
        CHECKS.same("a board to a place", x.cut(15, 14), 0);
        CHECKS.refuses("a board to no place", IllegalArgumentException.class, () -> x.cut(14, 15));
    }

    private static void addTrail() {
        WayMarker x = Offices.withForks(3);
        CHECKS.same("the first trail", x.addTrail(0, 1, 1, 300), 0);
        CHECKS.same("a second trail", x.addTrail(1, 0, 300, 1), 1);
        CHECKS.same("a third trail", x.addTrail(1, 2, 7, 9), 2);
        CHECKS.same("forth", x.minutes(0, 1, true), 1);
        CHECKS.same("back", x.minutes(1, 0, true), 300);
        CHECKS.same("forth on, as taken", x.minutes(0, 2, false), 8);
        CHECKS.same("back on, as taken", x.minutes(2, 0, false), 309);
        CHECKS.no("passable at first", x.isGone(0, true));
        CHECKS.no("taken as passable at first", x.isGone(0, false));
        for (int trail = 3; trail < 24; trail++) {
            CHECKS.same("addTrail", x.addTrail(0, 2, 50, 50), trail);
        }
        CHECKS.refuses("a 25th trail", IllegalStateException.class, () -> x.addTrail(0, 2, 1, 1));
        CHECKS.same("the way is as it was", x.minutes(0, 2, true), 8);
        CHECKS.same("way back", x.minutes(2, 0, true), 50);
        CHECKS.no("the last trail", x.isGone(23, true));
        CHECKS.refuses("trail 24", IndexOutOfBoundsException.class, () -> x.isGone(24, true));
        CHECKS.yes("sound", x.isSound());
    }

    private static void addTrailRefuses() {
        WayMarker x = Offices.withForks(2);
        int[][] wrongForks = {{-1, 0}, {0, -1}, {2, 0}, {0, 2}, {Integer.MIN_VALUE, 1}, {1, Integer.MAX_VALUE}, {2, 2}};
        for (int[] forks : wrongForks) {
            CHECKS.refuses("forks " + forks[0] + ", " + forks[1], IndexOutOfBoundsException.class,
                () -> x.addTrail(forks[0], forks[1], 5, 5));
        }
        CHECKS.refuses("the same fork", IllegalArgumentException.class, () -> x.addTrail(1, 1, 5, 5));
        int[][] wrongMinutes = {{0, 5}, {5, 0}, {301, 5}, {5, 301}, {-1, 5}, {5, -1},
            {Integer.MAX_VALUE, 1}, {1, Integer.MIN_VALUE}};
        for (int[] minutes : wrongMinutes) {
            CHECKS.refuses("minutes " + minutes[0] + ", " + minutes[1], IllegalArgumentException.class,
                () -> x.addTrail(0, 1, minutes[0], minutes[1]));
        }
        CHECKS.refuses("no way after what was refused", NoSuchElementException.class, () -> x.minutes(0, 1, true));
        CHECKS.same("the next trail is the first one", x.addTrail(0, 1, 300, 300), 0);
    }

    private static void addTrailOrder() {
        WayMarker x = Offices.withForks(2);
        CHECKS.refuses("fork ahead of minutes", IndexOutOfBoundsException.class, () -> x.addTrail(0, 2, 0, 0));
        for (int trail = 0; trail < 24; trail++) {
            x.addTrail(0, 1, 5, 5);
        }
        CHECKS.refuses("fork ahead of room", IndexOutOfBoundsException.class, () -> x.addTrail(-1, 1, 5, 5));
        CHECKS.refuses("same ahead of room", IllegalArgumentException.class, () -> x.addTrail(1, 1, 5, 5));
        CHECKS.refuses("minutes ahead of room", IllegalArgumentException.class, () -> x.addTrail(0, 1, 5, 301));
    }

    private static void washOut() {
        WayMarker x = Offices.withForks(3);
        x.addTrail(0, 1, 10, 20);
        x.addTrail(1, 2, 30, 40);
        CHECKS.yes("it was passable", x.washOut(1));
        CHECKS.no("it was gone", x.washOut(1));
        CHECKS.yes("it is gone", x.isGone(1, true));
        CHECKS.no("the office does not know", x.isGone(1, false));
        CHECKS.no("the other one stays", x.isGone(0, true));
        CHECKS.same("way as taken", x.minutes(0, 2, false), 40);
        CHECKS.refuses("way as it is", NoSuchElementException.class, () -> x.minutes(0, 2, true));
        CHECKS.same("the other way", x.minutes(1, 0, true), 20);
        for (int trail : new int[] {-1, 2, 24, Integer.MIN_VALUE, Integer.MAX_VALUE}) {
            CHECKS.refuses("washOut " + trail, IndexOutOfBoundsException.class, () -> x.washOut(trail));
        }
        CHECKS.yes("sound", x.isSound());
    }

    private static void isGone() {
        WayMarker x = Offices.withForks(2);
        x.addTrail(0, 1, 10, 20);
        x.addTrail(0, 1, 10, 20);
        x.report(0, 1, true);
        x.report(1, 1, true);
        CHECKS.yes("taken as gone", x.isGone(1, false));
        CHECKS.no("it is not", x.isGone(1, true));
        CHECKS.no("the other one as taken", x.isGone(0, false));
        for (int trail : new int[] {-1, 2, 24, Integer.MIN_VALUE, Integer.MAX_VALUE}) {
            CHECKS.refuses("isGone " + trail, IndexOutOfBoundsException.class, () -> x.isGone(trail, true));
            CHECKS.refuses("isGone, as taken, " + trail, IndexOutOfBoundsException.class, () -> x.isGone(trail, false));
        }
    }

    private static void minutes() {
        WayMarker x = Offices.withForks(4);
        x.addTrail(0, 1, 100, 1);
        x.addTrail(1, 2, 100, 1);
        x.addTrail(0, 2, 201, 3);
        CHECKS.same("over a fork", x.minutes(0, 2, true), 200);
        CHECKS.same("back over a fork", x.minutes(2, 0, true), 2);
        CHECKS.same("a way that starts against a trail", x.minutes(2, 1, false), 1);
        CHECKS.same("to itself", x.minutes(3, 3, false), 0);
        CHECKS.refuses("no way", NoSuchElementException.class, () -> x.minutes(0, 3, false));
        CHECKS.refuses("no way back", NoSuchElementException.class, () -> x.minutes(3, 0, true));
        x.washOut(0);
        CHECKS.same("round the gone one", x.minutes(0, 2, true), 201);
        CHECKS.same("on behind it", x.minutes(0, 1, true), 202);
        CHECKS.same("as taken", x.minutes(0, 1, false), 100);
        x.report(1, 2, true);
        x.report(2, 2, true);
        CHECKS.same("as it is, after reports", x.minutes(0, 2, true), 201);
        CHECKS.same("as taken, after reports", x.minutes(2, 0, false), 2);
        int[][] wrong = {{-1, 0}, {0, -1}, {4, 0}, {0, 4}, {16, 16}, {Integer.MAX_VALUE, 0}, {0, Integer.MIN_VALUE}};
        for (int[] forks : wrong) {
            CHECKS.refuses("minutes " + forks[0] + ", " + forks[1], IndexOutOfBoundsException.class,
                () -> x.minutes(forks[0], forks[1], true));
            CHECKS.refuses("minutes, as taken, " + forks[0] + ", " + forks[1], IndexOutOfBoundsException.class,
                () -> x.minutes(forks[0], forks[1], false));
        }
        CHECKS.yes("sound", x.isSound());
    }

    private static void minutesOfLongWays() {
        WayMarker x = Offices.withForks(16);
        // The trails of the way stand in the order that is the worst for one end.
        for (int fork = 14; fork >= 0; fork--) {
            x.addTrail(fork, fork + 1, 300, 299);
        }
        CHECKS.same("from end to end", x.minutes(0, 15, true), 15 * 300);
        CHECKS.same("back from end to end", x.minutes(15, 0, false), 15 * 299);
        x.addTrail(15, 0, 1, 2);
        CHECKS.same("round", x.minutes(0, 15, true), 2);
        CHECKS.same("half round", x.minutes(7, 0, true), 7 * 299);
        CHECKS.yes("sound", x.isSound());
    }

    private static void firstTrail() {
        WayMarker x = Offices.withForks(4);
        x.addTrail(0, 1, 30, 40);
        x.addTrail(1, 2, 20, 25);
        x.addTrail(0, 2, 60, 60);
        CHECKS.same("forth", x.firstTrail(0, 2), 0);
        CHECKS.same("on", x.firstTrail(1, 2), 1);
        CHECKS.same("back by the short one", x.firstTrail(2, 0), 2);
        x.washOut(1);
        CHECKS.same("as the office takes it", x.firstTrail(0, 2), 0);
        x.report(0, 1, true);
        x.report(1, 1, true);
        CHECKS.same("as the office takes it now", x.firstTrail(0, 2), 2);
        CHECKS.same("round", x.firstTrail(1, 2), 0);
        CHECKS.refuses("to itself", NoSuchElementException.class, () -> x.firstTrail(1, 1));
        CHECKS.refuses("no way", NoSuchElementException.class, () -> x.firstTrail(0, 3));
        CHECKS.refuses("no way back", NoSuchElementException.class, () -> x.firstTrail(3, 0));
        int[][] wrong = {{-1, 0}, {0, -1}, {4, 0}, {0, 4}, {4, 4}, {Integer.MAX_VALUE, 0}, {0, Integer.MIN_VALUE}};
        for (int[] forks : wrong) {
            CHECKS.refuses("firstTrail " + forks[0] + ", " + forks[1], IndexOutOfBoundsException.class,
                () -> x.firstTrail(forks[0], forks[1]));
        }
    }

    private static void firstTrailOfSeveral() {
        WayMarker x = Offices.withForks(4);
        x.addTrail(0, 1, 20, 20);
        x.addTrail(1, 3, 20, 20);
        x.addTrail(0, 2, 10, 10);
        x.addTrail(3, 2, 30, 30);
        x.addTrail(0, 3, 40, 40);
        CHECKS.same("the lowest one", x.firstTrail(0, 3), 0);
        CHECKS.same("the lowest one back", x.firstTrail(3, 0), 1);
        CHECKS.same("against a trail", x.firstTrail(2, 3), 3);
        x.report(0, 0, true);
        x.report(1, 0, true);
        CHECKS.same("the next one", x.firstTrail(0, 3), 2);
        CHECKS.same("the next one back", x.firstTrail(3, 0), 3);
        x.addTrail(0, 3, 39, 41);
        CHECKS.same("a shorter one", x.firstTrail(0, 3), 5);
        CHECKS.same("a longer one back", x.firstTrail(3, 0), 3);
    }
}
