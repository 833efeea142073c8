import java.util.NoSuchElementException;

/** Promises 18 to 23: tasks, and planning them. */
public final class TasksTest {
    private static final Checks CHECKS = new Checks();

    public static void main(String[] args) {
        addTask();
        addTaskRefuses();
        addTaskNeedsRoom();
        planCovers();
        planOrder();
        planUncovers();
        planByWhatTheOfficeTakes();
        planNeedsRoom();
        tasksThatAreNotThere();
        doneBy();
        openTasks();
        CHECKS.end();
    }

    private static void reportPassable(WayMarker x, int trail) {
        for (int walker = 0; walker < 10; walker++) {
            x.report(walker, trail, false);
        }
    }

    /** Two places with a trail of 10 minutes and one of 200, and two boards that tell the first one. */
    private static WayMarker small() {
        WayMarker x = new WayMarker();
        x.addFork(true);
        x.addFork(true);
        x.addTrail(0, 1, 10, 10);
        x.addTrail(0, 1, 200, 200);
        x.cut(0, 1);
        x.cut(1, 0);
        return x;
    }

    private static void addTask() {
        WayMarker x = small();
        CHECKS.same("mend", x.addTask('m', 1, 0), 0);
        CHECKS.same("replace", x.addTask('r', 1, 999), 1);
        CHECKS.same("the same again", x.addTask('r', 1, 999), 2);
        CHECKS.same("kind 0", x.kindOf(0), 'm');
        CHECKS.same("kind 1", x.kindOf(1), 'r');
        CHECKS.same("number 0", x.numberOf(0), 1);
        CHECKS.same("number 1", x.numberOf(1), 1);
        CHECKS.same("open", x.openTasks(), 3);
        x.addTrail(0, 1, 5, 5);
        CHECKS.same("a trail beyond the boards", x.addTask('m', 2, 1), 3);
        x.cut(0, 1);
        x.cut(0, 1);
        CHECKS.same("a board beyond the trails", x.addTask('r', 3, 1), 4);
        CHECKS.same("its number", x.numberOf(4), 3);
    }

    private static void addTaskRefuses() {
        WayMarker x = small();
        x.addTrail(0, 1, 5, 5);
        for (char kind : new char[] {'c', 'u', 'M', 'R', 'x', ' ', (char) 0, (char) 0xFFFF}) {
            CHECKS.refuses("kind " + (int) kind, IllegalArgumentException.class, () -> x.addTask(kind, 0, 0));
            CHECKS.refuses("kind ahead of number", IllegalArgumentException.class, () -> x.addTask(kind, 9, 0));
        }
        for (int danger : new int[] {-1, 1000, Integer.MIN_VALUE, Integer.MAX_VALUE}) {
            CHECKS.refuses("danger " + danger, IllegalArgumentException.class, () -> x.addTask('m', 0, danger));
            CHECKS.refuses("danger " + danger, IllegalArgumentException.class, () -> x.addTask('r', 0, danger));
            CHECKS.refuses("danger ahead of number", IllegalArgumentException.class, () -> x.addTask('r', -1, danger));
        }
        for (int number : new int[] {-1, 3, Integer.MIN_VALUE, Integer.MAX_VALUE}) {
            CHECKS.refuses("trail " + number, IndexOutOfBoundsException.class, () -> x.addTask('m', number, 0));
            CHECKS.refuses("board " + number, IndexOutOfBoundsException.class, () -> x.addTask('r', number, 0));
        }
        CHECKS.refuses("a board that is a trail's number", IndexOutOfBoundsException.class,
            () -> x.addTask('r', 2, 0));
        CHECKS.same("nothing was made", x.openTasks(), 0);
        CHECKS.same("the first one", x.addTask('m', 2, 0), 0);
    }

    private static void addTaskNeedsRoom() {
        WayMarker x = small();
        for (int task = 0; task < 40; task++) {
            CHECKS.same("addTask", x.addTask('m', 0, task), task);
        }
        CHECKS.refuses("no room to mend", IllegalStateException.class, () -> x.addTask('m', 0, 0));
        CHECKS.refuses("no room to replace", IllegalStateException.class, () -> x.addTask('r', 0, 0));
        CHECKS.refuses("kind ahead of room", IllegalArgumentException.class, () -> x.addTask('c', 0, 0));
        CHECKS.refuses("danger ahead of room", IllegalArgumentException.class, () -> x.addTask('m', 0, 1000));
        CHECKS.refuses("number ahead of room", IndexOutOfBoundsException.class, () -> x.addTask('m', 2, 0));
        CHECKS.same("40 are open", x.openTasks(), 40);
        CHECKS.same("the last one", x.kindOf(39), 'm');
        Offices.takeAsGone(x, 0);
        x.addRanger(0, 2);
        CHECKS.same("one is mended", x.day(), 1);
        CHECKS.same("39 are open", x.openTasks(), 39);
        CHECKS.refuses("one that is over has its number", IllegalStateException.class, () -> x.addTask('m', 0, 0));
    }

    private static void planCovers() {
        WayMarker x = small();
        CHECKS.same("nothing lies", x.plan(), 0);
        Offices.takeAsGone(x, 0);
        CHECKS.same("both lie", x.plan(), 2);
        CHECKS.same("kind of the first", x.kindOf(0), 'c');
        CHECKS.same("number of the first", x.numberOf(0), 0);
        CHECKS.same("kind of the second", x.kindOf(1), 'c');
        CHECKS.same("number of the second", x.numberOf(1), 1);
        CHECKS.same("both are planned", x.plan(), 0);
        CHECKS.same("open", x.openTasks(), 2);
        x.addRanger(0, 0);
        CHECKS.same("done", x.day(), 2);
        CHECKS.same("covered ones that lie", x.plan(), 0);
        x.addTask('r', 0, 0);
        x.addRanger(0, 1);
        CHECKS.same("cut anew", x.day(), 1);
        CHECKS.same("it tells the other trail", x.trailOf(0), 1);
        reportPassable(x, 0);
        Offices.takeAsGone(x, 1);
        CHECKS.same("the new one lies, the covered one no more", x.plan(), 2);
        CHECKS.same("the new one", x.numberOf(3), 0);
        CHECKS.same("is to be covered", x.kindOf(3), 'c');
        CHECKS.same("the covered one", x.numberOf(4), 1);
        CHECKS.same("is to be uncovered", x.kindOf(4), 'u');
    }

    private static void planOrder() {
        WayMarker x = new WayMarker();
        for (int fork = 0; fork < 5; fork++) {
            x.addFork(true);
        }
        x.addTrail(0, 1, 10, 10);
        x.addTrail(1, 2, 10, 10);
        x.addTrail(1, 3, 10, 10);
        x.addTrail(1, 4, 10, 10);
        x.addTrail(1, 4, 45, 45);
        x.addTrail(1, 2, 110, 110);
        x.addTrail(1, 3, 210, 210);
        x.cut(1, 0);
        x.cut(0, 4);
        x.cut(0, 2);
        x.cut(0, 3);
        x.cut(3, 1);
        x.cut(0, 2);
        x.cut(4, 2);
        Offices.takeAsGone(x, 1);
        Offices.takeAsGone(x, 2);
        Offices.takeAsGone(x, 3);
        CHECKS.same("danger 1", x.danger(1, false), 35);
        CHECKS.same("danger 2", x.danger(2, false), 100);
        CHECKS.same("danger 3", x.danger(3, false), 200);
        CHECKS.same("danger 4", x.danger(4, false), 1000);
        CHECKS.same("danger 6", x.danger(6, false), 1000);
        CHECKS.same("plan", x.plan(), 6);
        int[] due = {4, 6, 3, 2, 5, 1};
        for (int task = 0; task < due.length; task++) {
            CHECKS.same("task " + task, x.numberOf(task), due[task]);
            CHECKS.same("kind " + task, x.kindOf(task), 'c');
        }
    }

    private static void planUncovers() {
        WayMarker x = small();
        x.addTrail(0, 1, 5, 5);
        x.cut(0, 1);
        Offices.takeAsGone(x, 0);
        x.plan();
        x.addRanger(0, 0);
        CHECKS.same("both are covered", x.day(), 2);
        reportPassable(x, 0);
        Offices.takeAsGone(x, 2);
        CHECKS.yes("the last trail is taken as gone", x.isGone(2, false));
        CHECKS.same("two to uncover, one to cover", x.plan(), 3);
        CHECKS.same("the one to cover is the first", x.kindOf(2), 'c');
        CHECKS.same("its board", x.numberOf(2), 2);
        CHECKS.same("to uncover", x.kindOf(3), 'u');
        CHECKS.same("its board", x.numberOf(3), 0);
        CHECKS.same("to uncover", x.kindOf(4), 'u');
        CHECKS.same("its board", x.numberOf(4), 1);
        CHECKS.same("all are planned", x.plan(), 0);
        x.addTask('r', 2, 1);
        x.addRanger(1, 1);
        CHECKS.same("all are done", x.day(), 4);
        CHECKS.no("uncovered", x.isCovered(0));
        CHECKS.no("uncovered, too", x.isCovered(1));
        CHECKS.same("nothing is left", x.plan(), 0);
    }

    /** An open task of one kind does not stand for another kind of the same board. */
    private static void planByWhatTheOfficeTakes() {
        WayMarker x = small();
        x.washOut(0);
        CHECKS.same("the office does not know", x.plan(), 0);
        Offices.takeAsGone(x, 0);
        CHECKS.same("the office knows", x.plan(), 2);
        WayMarker y = small();
        y.addTask('r', 0, 5);
        Offices.takeAsGone(y, 0);
        CHECKS.same("asked to replace, but not to cover", y.plan(), 2);
        y.addRanger(0, 0);
        y.day();
        reportPassable(y, 0);
        CHECKS.same("to uncover", y.plan(), 2);
        Offices.takeAsGone(y, 0);
        y.report(2, 0, true);
        y.report(3, 0, true);
        CHECKS.same("taken as passable still", y.plan(), 0);
        y.day();
        CHECKS.same("open but for the replacing one", y.openTasks(), 1);
        for (int walker = 2; walker < 10; walker++) {
            y.report(walker, 0, true);
        }
        CHECKS.yes("taken as gone again", y.isGone(0, false));
        CHECKS.same("what is over is asked anew", y.plan(), 2);
    }

    private static void planNeedsRoom() {
        WayMarker x = small();
        for (int task = 0; task < 39; task++) {
            x.addTask('m', 1, 0);
        }
        Offices.takeAsGone(x, 0);
        CHECKS.same("room for one", x.plan(), 1);
        CHECKS.same("the first board", x.numberOf(39), 0);
        CHECKS.same("room for none", x.plan(), 0);
        CHECKS.same("40 are open", x.openTasks(), 40);
        CHECKS.refuses("task 40", IndexOutOfBoundsException.class, () -> x.kindOf(40));

        WayMarker y = small();
        y.addWood(20);
        for (int board = 2; board < 30; board++) {
            y.cut(0, 1);
        }
        Offices.takeAsGone(y, 0);
        CHECKS.same("all boards", y.plan(), 30);
        for (int task = 0; task < 30; task++) {
            CHECKS.same("task " + task, y.numberOf(task), task);
        }
        y.addRanger(1, 0);
        CHECKS.same("210 minutes each", y.day(), 2);
        CHECKS.same("200 minutes, and 10 each", y.day(), 28);
        CHECKS.same("in 900 minutes", y.worked(0), 900);
        reportPassable(y, 0);
        CHECKS.same("room for ten", y.plan(), 10);
        CHECKS.same("the lowest ones", y.numberOf(39), 9);
    }

    private static void tasksThatAreNotThere() {
        WayMarker x = small();
        x.addTask('m', 0, 0);
        for (int task : new int[] {-1, 1, 40, Integer.MIN_VALUE, Integer.MAX_VALUE}) {
            CHECKS.refuses("kindOf " + task, IndexOutOfBoundsException.class, () -> x.kindOf(task));
            CHECKS.refuses("numberOf " + task, IndexOutOfBoundsException.class, () -> x.numberOf(task));
            CHECKS.refuses("doneBy " + task, IndexOutOfBoundsException.class, () -> x.doneBy(task));
        }
    }

    private static void doneBy() {
        WayMarker x = small();
        x.addTask('r', 0, 0);
        x.addTask('m', 1, 9);
        CHECKS.refuses("open", NoSuchElementException.class, () -> x.doneBy(0));
        x.addRanger(0, 0);
        x.addRanger(0, 1);
        x.addRanger(0, 2);
        CHECKS.same("one is done", x.day(), 1);
        CHECKS.same("by who has the tool", x.doneBy(0), 1);
        CHECKS.refuses("open still", NoSuchElementException.class, () -> x.doneBy(1));
        Offices.takeAsGone(x, 1);
        CHECKS.same("the other one is done", x.day(), 1);
        CHECKS.same("by who has that tool", x.doneBy(1), 2);
        CHECKS.yes("sound", x.isSound());
    }

    private static void openTasks() {
        WayMarker x = small();
        CHECKS.same("none", x.openTasks(), 0);
        x.addTask('r', 0, 0);
        x.addTask('r', 1, 0);
        x.addTask('m', 1, 0);
        CHECKS.same("three", x.openTasks(), 3);
        x.addRanger(0, 1);
        CHECKS.same("two are done", x.day(), 2);
        CHECKS.same("one", x.openTasks(), 1);
    }
}
