import java.util.NoSuchElementException;

/** Promises 24 to 27: rangers, and their days. */
public final class RangersTest {
    private static final Checks CHECKS = new Checks();

    public static void main(String[] args) {
        addRanger();
        rangersThatAreNotThere();
        daysAreFifty();
        takesTheMostDangerous();
        needsTools();
        needsTime();
        hasTimeForTheWay();
        worksTillTheDayEnds();
        oneBehindTheOther();
        seesEachTrail();
        looksForAWayAnew();
        leavesTheTaskIfTheNewWayIsTooLong();
        leavesTheTaskIfThereIsNoNewWay();
        takesAnotherTaskBehindALeftOne();
        leavesWhatCannotBeDoneAnyMore();
        replaces();
        replacingNeedsWoodAndWay();
        mends();
        mendsWhatIsPassable();
        mendsAtTheFirstFork();
        goesByTheLowestTrail();
        CHECKS.end();
    }

    private static void addRanger() {
        WayMarker x = Offices.withForks(2);
        for (int fork : new int[] {-1, 2, 16, Integer.MIN_VALUE, Integer.MAX_VALUE}) {
            CHECKS.refuses("at fork " + fork, IndexOutOfBoundsException.class, () -> x.addRanger(fork, 0));
            CHECKS.refuses("fork ahead of tools", IndexOutOfBoundsException.class, () -> x.addRanger(fork, 4));
        }
        for (int tools : new int[] {-1, 4, Integer.MIN_VALUE, Integer.MAX_VALUE}) {
            CHECKS.refuses("tools " + tools, IllegalArgumentException.class, () -> x.addRanger(0, tools));
        }
        for (int ranger = 0; ranger < 4; ranger++) {
            CHECKS.same("addRanger", x.addRanger(ranger % 2, ranger), ranger);
            CHECKS.same("forkOf", x.forkOf(ranger), ranger % 2);
            CHECKS.same("worked", x.worked(ranger), 0);
        }
        CHECKS.refuses("a fifth ranger", IllegalStateException.class, () -> x.addRanger(0, 0));
        CHECKS.refuses("fork ahead of room", IndexOutOfBoundsException.class, () -> x.addRanger(2, 0));
        CHECKS.refuses("tools ahead of room", IllegalArgumentException.class, () -> x.addRanger(0, 4));
    }

    private static void rangersThatAreNotThere() {
        WayMarker x = Offices.withForks(1);
        x.addRanger(0, 0);
        for (int ranger : new int[] {-1, 1, 4, Integer.MIN_VALUE, Integer.MAX_VALUE}) {
            CHECKS.refuses("forkOf " + ranger, IndexOutOfBoundsException.class, () -> x.forkOf(ranger));
            CHECKS.refuses("worked " + ranger, IndexOutOfBoundsException.class, () -> x.worked(ranger));
        }
    }

    private static void daysAreFifty() {
        WayMarker x = Offices.withForks(2);
        x.addTrail(0, 1, 10, 10);
        x.cut(0, 1);
        x.print();
        for (int day = 1; day <= 50; day++) {
            CHECKS.same("nothing is done", x.day(), 0);
            CHECKS.same("days", x.age(0), day);
        }
        x.addTask('r', 0, 0);
        x.addRanger(0, 1);
        CHECKS.refuses("day 51", IllegalStateException.class, () -> x.day());
        CHECKS.same("no day has passed", x.age(0), 50);
        CHECKS.same("nothing was done", x.openTasks(), 1);
        CHECKS.refuses("day 51 again", IllegalStateException.class, () -> x.day());
    }

    /** Boards at the fork 0 that tell the trail 0, and tasks to replace them, of these dangers. */
    private static WayMarker toReplace(int[] dangers) {
        WayMarker x = Offices.withForks(2);
        x.addTrail(0, 1, 10, 10);
        x.addWood(99);
        for (int task = 0; task < dangers.length; task++) {
            x.cut(0, 1);
            x.addTask('r', task, dangers[task]);
        }
        return x;
    }

    private static void takesTheMostDangerous() {
        WayMarker x = toReplace(new int[] {5, 7, 7, 999, 0, 5});
        x.addTrail(0, 1, 300, 300);
        x.addRanger(1, 1);
        // There is time for the way of 300 and for six of the tasks.
        for (int task = 0; task < 4; task++) {
            x.cut(0, 1);
            x.addTask('r', 6 + task, 6);
        }
        Offices.takeAsGone(x, 0);
        CHECKS.same("six are done", x.day(), 6);
        for (int task : new int[] {3, 1, 2, 6, 7, 8}) {
            CHECKS.same("done " + task, x.doneBy(task), 0);
        }
        for (int task : new int[] {0, 4, 5, 9}) {
            CHECKS.refuses("open " + task, NoSuchElementException.class, () -> x.doneBy(task));
        }
        CHECKS.same("all its time", x.worked(0), 480);
        CHECKS.same("the rest", x.day(), 4);
        CHECKS.same("more time", x.worked(0), 600);
    }

    private static void needsTools() {
        int[] done = {2, 3, 3, 4};
        for (int tools = 0; tools <= 3; tools++) {
            WayMarker x = Offices.withForks(2);
            x.addTrail(0, 1, 10, 10);
            x.addTrail(0, 1, 20, 20);
            x.cut(0, 1);
            x.cut(0, 1);
            Offices.takeAsGone(x, 0);
            x.plan();
            x.addTask('r', 1, 1);
            x.addTask('m', 0, 0);
            x.addRanger(0, tools);
            CHECKS.same("with the tools " + tools, x.day(), done[tools]);
            CHECKS.same("covered with the tools " + tools, x.isCovered(0) ? 1 : 0, 1);
            CHECKS.same("replaced with the tools " + tools, x.isCovered(1) ? 0 : 1, tools % 2);
            CHECKS.same("mended with the tools " + tools, x.isGone(0, false) ? 0 : 1, tools / 2);
        }
    }

    private static void needsTime() {
        for (int way = 269; way <= 271; way++) {
            WayMarker x = Offices.withForks(3);
            x.addTrail(0, 1, way, way);
            x.addTrail(0, 2, 10, 10);
            x.cut(0, 2);
            x.cut(1, 0);
            x.addTask('r', 1, 9);
            x.addTask('r', 1, 8);
            x.addTask('r', 1, 7);
            x.addTask('r', 1, 6);
            x.addTask('r', 1, 5);
            x.addTask('r', 1, 4);
            x.addTask('r', 0, 1);
            x.addRanger(1, 1);
            CHECKS.same("180 minutes, and the way of " + way, x.day(), way <= 270 ? 7 : 6);
            CHECKS.same("where the ranger is", x.forkOf(0), way <= 270 ? 0 : 1);
            CHECKS.same("minutes", x.worked(0), way <= 270 ? 210 + way : 180);
        }
        for (int way = 279; way <= 281; way++) {
            WayMarker x = Offices.withForks(2);
            x.addTrail(0, 1, 10, way);
            x.addTrail(0, 1, 1, 1);
            Offices.takeAsGone(x, 1);
            x.addTask('m', 1, 9);
            x.addRanger(1, 2);
            CHECKS.same("200 minutes, and the way of " + way, x.day(), way <= 280 ? 1 : 0);
            CHECKS.same("minutes", x.worked(0), way <= 280 ? 200 + way : 0);
        }
        for (int way = 169; way <= 171; way++) {
            WayMarker x = Offices.withForks(3);
            x.addTrail(0, 1, 300, 300);
            x.addTrail(1, 2, way, way);
            x.addTrail(0, 2, 5, 300);
            x.cut(0, 2);
            Offices.takeAsGone(x, 2);
            x.plan();
            x.addRanger(2, 0);
            CHECKS.same("10 minutes, 300, and the way of " + way, x.day(), way <= 170 ? 1 : 0);
            CHECKS.same("minutes", x.worked(0), way <= 170 ? 310 + way : 0);
        }
    }

    private static void hasTimeForTheWay() {
        WayMarker x = Offices.withForks(3);
        x.addTrail(0, 1, 300, 300);
        x.addTrail(1, 2, 300, 300);
        x.cut(0, 1);
        x.addTask('r', 0, 999);
        x.addRanger(2, 1);
        CHECKS.same("too far", x.day(), 0);
        CHECKS.same("the ranger does not go", x.forkOf(0), 2);
        CHECKS.same("nor work", x.worked(0), 0);
        x.cut(2, 1);
        x.addTask('r', 1, 0);
        CHECKS.same("a task of less danger", x.day(), 1);
        CHECKS.same("its doer", x.doneBy(1), 0);
    }

    private static void worksTillTheDayEnds() {
        WayMarker x = toReplace(new int[20]);
        x.addRanger(0, 1);
        CHECKS.same("16 of 30 minutes", x.day(), 16);
        CHECKS.same("480 minutes", x.worked(0), 480);
        CHECKS.same("the last one", x.doneBy(15), 0);
        CHECKS.refuses("open", NoSuchElementException.class, () -> x.doneBy(16));
        CHECKS.same("the rest", x.day(), 4);
        CHECKS.same("600 minutes", x.worked(0), 600);
        CHECKS.same("no more", x.day(), 0);
    }

    private static void oneBehindTheOther() {
        WayMarker x = toReplace(new int[20]);
        x.addRanger(1, 1);
        x.addRanger(1, 1);
        CHECKS.same("all of them", x.day(), 20);
        CHECKS.same("15 of 30 minutes, and the way", x.worked(0), 460);
        CHECKS.same("5 of 30 minutes, and the way", x.worked(1), 160);
        CHECKS.same("the last one of the first ranger", x.doneBy(14), 0);
        CHECKS.same("the first one of the second ranger", x.doneBy(15), 1);
        CHECKS.same("both are there", x.forkOf(0) + x.forkOf(1), 0);
        CHECKS.yes("sound", x.isSound());
    }

    private static void seesEachTrail() {
        WayMarker x = Offices.withForks(4);
        x.addTrail(0, 1, 10, 10);
        x.addTrail(1, 2, 10, 10);
        x.addTrail(2, 3, 10, 10);
        x.cut(2, 3);
        x.report(0, 0, true);
        x.report(1, 0, false);
        x.report(2, 1, true);
        x.report(3, 2, true);
        x.addTask('r', 0, 0);
        x.addRanger(0, 1);
        CHECKS.same("done", x.day(), 1);
        CHECKS.same("wrong of the first trail", x.trust(0), 30);
        CHECKS.same("right of the first trail", x.trust(1), 60);
        CHECKS.same("wrong of the second trail", x.trust(2), 30);
        CHECKS.same("of a trail that was not walked", x.trust(3), 50);
        CHECKS.same("reports of the first trail", x.reports(0), 0);
        CHECKS.same("reports of the second trail", x.reports(1), 0);
        CHECKS.same("reports of the third trail", x.reports(2), 1);
        CHECKS.same("20 and 30 minutes", x.worked(0), 50);
    }

    private static void looksForAWayAnew() {
        WayMarker x = Offices.withForks(4);
        x.addTrail(0, 1, 10, 10);
        x.addTrail(1, 2, 10, 10);
        x.addTrail(0, 3, 100, 100);
        x.addTrail(3, 2, 100, 100);
        x.cut(2, 3);
        x.addTask('r', 0, 0);
        x.addRanger(0, 1);
        x.washOut(1);
        x.report(0, 1, true);
        x.report(1, 1, false);
        CHECKS.same("done all the same", x.day(), 1);
        CHECKS.same("to fork 1, and back, and round", x.worked(0), 10 + 10 + 200 + 30);
        CHECKS.same("it is there", x.forkOf(0), 2);
        CHECKS.yes("now the office knows", x.isGone(1, false));
        CHECKS.same("who was right", x.trust(0), 60);
        CHECKS.same("who was wrong", x.trust(1), 30);
        CHECKS.same("the reports are gone", x.reports(1), 0);
    }

    private static void leavesTheTaskIfTheNewWayIsTooLong() {
        // 10 minutes to fork 1, where the next trail is seen as gone, and 10 back.
        for (int way = 209; way <= 211; way++) {
            WayMarker x = Offices.withForks(4);
            x.addTrail(0, 1, 10, 10);
            x.addTrail(1, 2, 10, 10);
            x.addTrail(0, 3, 220, 100);
            x.addTrail(3, 2, way, 100);
            x.cut(2, 3);
            x.addTask('r', 0, 0);
            x.addRanger(0, 1);
            x.washOut(1);
            boolean isInTime = way <= 210;
            CHECKS.same("done with " + way, x.day(), isInTime ? 1 : 0);
            CHECKS.same("worked with " + way, x.worked(0), isInTime ? 270 + way : 10);
            CHECKS.same("the ranger stays", x.forkOf(0), isInTime ? 2 : 1);
            CHECKS.same("open with " + way, x.openTasks(), isInTime ? 0 : 1);
        }
    }

    private static void leavesTheTaskIfThereIsNoNewWay() {
        WayMarker x = Offices.withForks(3);
        x.addTrail(0, 1, 10, 10);
        x.addTrail(1, 2, 10, 10);
        x.cut(2, 1);
        x.addTask('r', 0, 0);
        x.addRanger(0, 1);
        x.washOut(1);
        CHECKS.same("not done", x.day(), 0);
        CHECKS.same("the way to fork 1", x.worked(0), 10);
        CHECKS.same("the ranger stays", x.forkOf(0), 1);
        CHECKS.same("the task is open", x.openTasks(), 1);
        CHECKS.yes("seen", x.isGone(1, false));
        CHECKS.same("not done the next day", x.day(), 0);
        CHECKS.same("the ranger stays still", x.worked(0), 10);
    }

    private static void takesAnotherTaskBehindALeftOne() {
        WayMarker x = Offices.withForks(3);
        x.addTrail(0, 1, 10, 10);
        x.addTrail(1, 2, 10, 10);
        x.cut(2, 1);
        x.cut(0, 1);
        x.cut(1, 0);
        x.addTask('r', 0, 100);
        x.addTask('r', 1, 5);
        x.addTask('m', 1, 6);
        x.addTask('r', 2, 7);
        x.addRanger(0, 3);
        x.washOut(1);
        // To fork 1; there it replaces, mends, goes on to fork 2; then back to fork 0.
        CHECKS.same("all are done", x.day(), 4);
        CHECKS.same("minutes", x.worked(0), 10 + 30 + 200 + 10 + 30 + 20 + 30);
        CHECKS.same("where the last one is", x.forkOf(0), 0);
        CHECKS.no("mended", x.isGone(1, true));
    }

    /** The trail that is seen as gone on the way is that of the board as well, and the next one is too long. */
    private static void leavesWhatCannotBeDoneAnyMore() {
        WayMarker x = Offices.withForks(3);
        x.addTrail(0, 1, 300, 5);
        x.addTrail(1, 2, 10, 5);
        x.addTrail(0, 2, 290, 1);
        x.addTrail(2, 1, 100, 5);
        x.cut(0, 2);
        CHECKS.same("told by trail 2", x.told(0), 290);
        x.addTask('r', 0, 9);
        x.addTask('r', 0, 8);
        x.addRanger(2, 1);
        x.washOut(2);
        CHECKS.same("it comes there, but the way to the place is too long", x.day(), 0);
        CHECKS.same("it is there", x.forkOf(0), 0);
        CHECKS.same("5 and 5 minutes", x.worked(0), 10);
        CHECKS.same("both are open", x.openTasks(), 2);
        CHECKS.same("the wood is there", x.addWood(1), 10);
        CHECKS.same("not chosen the next day", x.day(), 0);
        CHECKS.same("nor walked", x.worked(0), 10);
        x.addTrail(0, 2, 300, 300);
        CHECKS.same("done when it can be", x.day(), 2);
        CHECKS.same("told by the new trail", x.trailOf(0), 4);
    }

    private static void replaces() {
        WayMarker x = Offices.withForks(2);
        x.addTrail(0, 1, 10, 10);
        x.cut(0, 1);
        Offices.takeAsGone(x, 0);
        x.addTrail(0, 1, 46, 46);
        x.plan();
        x.addRanger(0, 1);
        x.day();
        CHECKS.yes("covered", x.isCovered(0));
        x.addTask('r', 0, 0);
        CHECKS.same("done", x.day(), 1);
        CHECKS.no("uncovered by a new one", x.isCovered(0));
        CHECKS.same("it tells", x.told(0), 50);
        CHECKS.same("the trail", x.trailOf(0), 1);
        CHECKS.same("its danger", x.danger(0, false), 0);
        CHECKS.same("10 and 30 minutes", x.worked(0), 40);
        CHECKS.same("no more boards", x.cut(0, 1), 1);
        CHECKS.same("wood", x.addWood(1), 8);
    }

    private static void replacingNeedsWoodAndWay() {
        WayMarker x = Offices.withForks(2);
        x.addTrail(0, 1, 10, 10);
        for (int board = 0; board < 9; board++) {
            x.cut(0, 1);
        }
        x.addTask('r', 0, 0);
        x.addTask('r', 1, 0);
        x.addRanger(1, 1);
        CHECKS.same("wood for one", x.day(), 1);
        CHECKS.same("it took the lowest one", x.doneBy(0), 0);
        CHECKS.refuses("the other one is open", NoSuchElementException.class, () -> x.doneBy(1));
        x.addWood(5);
        Offices.takeAsGone(x, 0);
        CHECKS.same("no way to tell", x.day(), 0);
        x.addTrail(0, 1, 300, 300);
        CHECKS.same("a way of 300", x.day(), 1);
        CHECKS.same("told", x.told(1), 300);
        WayMarker y = Offices.withForks(3);
        y.addTrail(0, 1, 10, 10);
        y.cut(0, 1);
        y.addTrail(0, 2, 150, 5);
        y.addTrail(2, 1, 151, 5);
        Offices.takeAsGone(y, 0);
        y.addTask('r', 0, 0);
        y.addRanger(0, 1);
        CHECKS.same("a way of 301", y.day(), 0);
        CHECKS.same("no minutes", y.worked(0), 0);
    }

    private static void mends() {
        WayMarker x = Offices.withForks(3);
        x.addTrail(0, 1, 10, 10);
        x.addTrail(1, 2, 5, 6);
        x.addTask('m', 1, 0);
        x.addRanger(0, 2);
        x.washOut(1);
        CHECKS.same("the office takes it as passable", x.day(), 0);
        CHECKS.same("no minutes", x.worked(0), 0);
        Offices.takeAsGone(x, 1);
        x.report(0, 1, false);
        CHECKS.same("mended", x.day(), 1);
        CHECKS.no("passable", x.isGone(1, true));
        CHECKS.no("taken as passable", x.isGone(1, false));
        CHECKS.same("who was right", x.trust(8), 60);
        CHECKS.same("who was wrong", x.trust(0), 30);
        CHECKS.same("the reports are gone", x.reports(1), 0);
        CHECKS.same("minutes", x.worked(0), 210);
        CHECKS.same("the ways are back", x.minutes(0, 2, true), 15);
        CHECKS.same("the ways are back, as taken", x.minutes(2, 0, false), 16);
        CHECKS.yes("sound", x.isSound());
    }

    private static void mendsWhatIsPassable() {
        WayMarker x = Offices.withForks(2);
        x.addTrail(0, 1, 10, 10);
        Offices.takeAsGone(x, 0);
        x.report(0, 0, false);
        x.addTask('m', 0, 0);
        x.addTask('m', 0, 0);
        x.addRanger(0, 2);
        CHECKS.same("mended once", x.day(), 1);
        CHECKS.same("it takes its time", x.worked(0), 200);
        CHECKS.no("taken as passable", x.isGone(0, false));
        CHECKS.same("who was wrong", x.trust(8), 30);
        CHECKS.same("who was right", x.trust(0), 60);
        CHECKS.same("the other task is open", x.openTasks(), 1);
        CHECKS.same("the first one is over", x.doneBy(0), 0);
    }

    private static void mendsAtTheFirstFork() {
        WayMarker x = Offices.withForks(3);
        x.addTrail(0, 1, 20, 30);
        x.addTrail(2, 1, 7, 7);
        x.addTrail(2, 0, 9, 9);
        Offices.takeAsGone(x, 1);
        x.addTask('m', 1, 0);
        x.addRanger(1, 2);
        CHECKS.same("mended", x.day(), 1);
        CHECKS.same("at its first fork", x.forkOf(0), 2);
        CHECKS.same("minutes", x.worked(0), 30 + 9 + 200);
    }

    private static void goesByTheLowestTrail() {
        WayMarker x = Offices.withForks(4);
        x.addTrail(1, 3, 10, 10);
        x.addTrail(0, 2, 20, 20);
        x.addTrail(0, 1, 20, 20);
        x.addTrail(3, 2, 10, 10);
        x.cut(3, 2);
        x.report(0, 1, false);
        x.report(1, 2, false);
        x.report(2, 3, false);
        x.report(3, 0, false);
        x.addTask('r', 0, 0);
        x.addRanger(0, 1);
        CHECKS.same("done", x.day(), 1);
        CHECKS.same("by trail 1", x.trust(0), 60);
        CHECKS.same("not by trail 2", x.trust(1), 50);
        CHECKS.same("by trail 3", x.trust(2), 60);
        CHECKS.same("not by trail 0", x.trust(3), 50);
    }
}
