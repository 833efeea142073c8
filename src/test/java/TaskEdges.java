import java.util.NoSuchElementException;

/** The edges of tasks and of planning them (promises 18 to 23). */
final class TaskEdges {
    private TaskEdges() {
    }

    /** Two places, a trail of 10 minutes and one of 200, and so many boards from 0 to 1 that tell the first one. */
    private static WayMarker withBoards(int boards) {
        WayMarker x = Offices.withForks(2);
        x.addTrail(0, 1, 10, 10);
        x.addTrail(0, 1, 200, 200);
        x.addWood(30);
        for (int board = 0; board < boards; board++) {
            x.cut(0, 1);
        }
        return x;
    }

    @Edge("Terms: At most 40 tasks are numbered from 0:")
    static void fortyTasks(Checks c) {
        WayMarker x = withBoards(1);
        for (int task = 0; task < 40; task++) {
            c.same("task", x.addTask(task % 2 == 0 ? 'm' : 'r', task % 2 == 0 ? 1 : 0, task), task);
        }
        c.refuses("a 41st task", IllegalStateException.class, () -> x.addTask('m', 0, 0));
        c.same("the kind of the first one", x.kindOf(0), 'm');
        c.same("the kind of the last one", x.kindOf(39), 'r');
        c.same("the number of the last one", x.numberOf(39), 0);
        x.addRanger(0, 1);
        c.same("16 of 30 minutes", x.day(), 16);
        c.same("the last one was done", x.doneBy(39), 0);
        c.refuses("a 41st task, though 16 are over", IllegalStateException.class, () -> x.addTask('m', 0, 0));
        Offices.takeAsGone(x, 0);
        c.same("nor is one planned", x.plan(), 0);
        c.same("24 are open", x.openTasks(), 24);
    }

    @Edge({
        "Terms: 'c' to cover a board, 'u' to uncover one, 'r' to replace one by a board that is cut anew then, "
            + "uncovered, in its place, which takes 1 of the wood; 'm' to mend a trail.",
        "Promise 20: Returns 'c', 'u', 'r' or 'm'.",
        "Promise 21: Returns the number of the board, or of the trail for 'm'.",
    })
    static void fourKinds(Checks c) {
        WayMarker x = withBoards(2);
        x.addRanger(0, 3);
        x.cut(1, 0);
        Offices.takeAsGone(x, 0);
        c.same("three lie", x.plan(), 3);
        c.same("to cover", x.kindOf(0), 'c');
        c.same("three are covered", x.day(), 3);
        c.same("to replace", x.addTask('r', 1, 0), 3);
        c.same("the wood is 37", x.addWood(1), 38);
        c.same("one is replaced", x.day(), 1);
        c.no("uncovered", x.isCovered(1));
        c.same("cut anew, by the other trail", x.trailOf(1), 1);
        c.same("it tells", x.told(1), 200);
        c.same("the wood is 1 less", x.addWood(1), 38);
        c.same("to mend", x.addTask('m', 0, 0), 4);
        c.same("the trail is mended", x.day(), 1);
        c.same("two do not lie any more, and one does not lie", x.plan(), 2);
        c.same("to uncover", x.kindOf(5), 'u');
        c.same("the first one", x.numberOf(5), 0);
        c.same("to uncover, too", x.kindOf(6), 'u');
        c.same("the last one", x.numberOf(6), 2);
        c.same("both are uncovered", x.day(), 2);
        c.no("the first one is uncovered", x.isCovered(0));
        c.no("the last one is uncovered", x.isCovered(2));
        c.same("kind 3", x.kindOf(3), 'r');
        c.same("number 3", x.numberOf(3), 1);
        c.same("kind 4", x.kindOf(4), 'm');
        c.same("number 4", x.numberOf(4), 0);
    }

    /** A board 0 at the fork 0 that comes to lie by the trail 1, or by 1 and 2, and a board 1 at the fork 1. */
    private static WayMarker withDetour() {
        WayMarker x = Offices.withForks(3);
        x.addTrail(0, 1, 10, 10);
        x.addTrail(1, 2, 10, 10);
        x.addTrail(1, 2, 180, 180);
        x.cut(0, 2);
        x.cut(1, 0);
        x.addRanger(0, 1);
        return x;
    }

    /** Whether the ranger, who is at the fork 0, covers or uncovers there first, and replaces at the fork 1 then. */
    private static boolean isReplacedLast(Checks c, WayMarker x) {
        c.same("both are done", x.day(), 2);
        return x.forkOf(0) == 1;
    }

    @Edge("Terms: A task has a danger, as it is made.")
    static void dangerAsMade(Checks c) {
        for (int danger = 169; danger <= 171; danger++) {
            WayMarker x = withDetour();
            Offices.takeAsGone(x, 1);
            c.same("its danger", x.danger(0, false), 170);
            c.same("planned", x.plan(), 1);
            Offices.takeAsGone(x, 2);
            c.same("more danger now", x.danger(0, false), 1000);
            x.addTask('r', 1, danger);
            c.yes("170 against " + danger, isReplacedLast(c, x) == danger <= 170);
        }
        for (int danger = 998; danger <= 999; danger++) {
            WayMarker x = withDetour();
            x.addTask('r', 1, danger);
            Offices.takeAsGone(x, 1);
            Offices.takeAsGone(x, 2);
            c.same("planned", x.plan(), 1);
            Offices.takeAsPassable(x, 2);
            c.same("less danger now", x.danger(0, false), 170);
            c.yes("1000 against " + danger, isReplacedLast(c, x));
        }
    }

    @Edge({
        "Terms: It is open, or over.",
        "Promise 22: Returns the number of the ranger.",
        "Promise 23: Returns the number of tasks.",
    })
    static void openOrOver(Checks c) {
        WayMarker x = withBoards(4);
        c.same("none is open", x.openTasks(), 0);
        for (int task = 0; task < 4; task++) {
            x.addTask('r', task, 0);
            c.same("open", x.openTasks(), task + 1);
        }
        x.addTask('m', 0, 0);
        for (int ranger = 0; ranger < 4; ranger++) {
            x.addRanger(0, ranger == 3 ? 1 : 0);
        }
        c.refuses("open", NoSuchElementException.class, () -> x.doneBy(3));
        c.same("four are done by the last ranger", x.day(), 4);
        for (int task = 0; task < 4; task++) {
            c.same("over", x.doneBy(task), 3);
        }
        c.refuses("open still", NoSuchElementException.class, () -> x.doneBy(4));
        c.same("one is open", x.openTasks(), 1);
        c.same("what is over is not done again", x.day(), 0);
        WayMarker y = withBoards(1);
        for (int task = 0; task < 40; task++) {
            y.addTask('m', 0, 0);
        }
        c.same("all are open", y.openTasks(), 40);
    }

    @Edge("Terms: Planning makes tasks 'c' for all boards that are not covered and lie, as the office takes it, "
        + "and 'u' for all that are covered and do not lie, if there is no open task of this kind for the board:")
    static void planning(Checks c) {
        for (int more = 29; more <= 30; more++) {
            WayMarker x = Offices.withForks(3);
            x.addTrail(0, 1, 10, 10);
            x.addTrail(1, 2, 10, 10);
            x.addTrail(1, 2, 10 + more, 10 + more);
            x.cut(0, 2);
            x.washOut(1);
            c.same("it lies as it is alone", x.plan(), 0);
            Offices.takeAsGone(x, 1);
            c.same("more by " + more, x.plan(), more < 30 ? 0 : 1);
            c.same("planned once", x.plan(), 0);
        }
        WayMarker x = withBoards(1);
        Offices.takeAsGone(x, 0);
        x.addTask('r', 0, 0);
        c.same("an open task of another kind does not count", x.plan(), 1);
        x.addRanger(0, 0);
        c.same("covered", x.day(), 1);
        c.same("covered, and lies", x.plan(), 0);
        Offices.takeAsPassable(x, 0);
        c.same("covered, and does not lie", x.plan(), 1);
        c.same("planned once to be uncovered", x.plan(), 0);
        c.same("uncovered", x.day(), 1);
        c.same("uncovered, and does not lie", x.plan(), 0);
        Offices.takeAsGone(x, 0);
        c.same("a task that is over does not count", x.plan(), 1);
        WayMarker y = withBoards(2);
        y.addTask('m', 0, 0);
        Offices.takeAsGone(y, 0);
        c.same("a task for the trail of the same number does not count", y.plan(), 2);
        WayMarker z = withBoards(2);
        z.addRanger(0, 0);
        Offices.takeAsGone(z, 0);
        z.plan();
        z.day();
        Offices.takeAsPassable(z, 0);
        c.same("both to be uncovered", z.plan(), 2);
        Offices.takeAsGone(z, 0);
        c.same("nothing to be covered", z.plan(), 0);
        c.same("uncovered all the same", z.day(), 2);
        c.same("both to be covered again", z.plan(), 2);
    }

    @Edge("Terms: those with more danger first, of the same danger by rising boards; 'u' has the danger 0.")
    static void orderOfPlanning(Checks c) {
        WayMarker x = Offices.withForks(4);
        x.addTrail(0, 1, 10, 10);
        x.addTrail(1, 2, 10, 10);
        x.addTrail(1, 3, 10, 10);
        x.addTrail(1, 2, 40, 40);
        x.addTrail(1, 3, 41, 41);
        x.addTrail(0, 1, 100, 100);
        x.cut(0, 1);
        x.cut(0, 2);
        x.cut(0, 3);
        x.cut(0, 2);
        x.cut(2, 1);
        x.cut(1, 0);
        Offices.takeAsGone(x, 0);
        c.same("five tell that trail", x.plan(), 5);
        x.addRanger(0, 0);
        c.same("all are covered", x.day(), 5);
        // From here on, the first trail is passable, and the second and the third one are gone.
        Offices.takeAsPassable(x, 0);
        x.cut(0, 2);
        x.cut(0, 3);
        x.cut(0, 2);
        Offices.takeAsGone(x, 1);
        Offices.takeAsGone(x, 2);
        c.same("30 more", x.danger(6, false), 30);
        c.same("31 more", x.danger(7, false), 31);
        c.same("its trail is gone", x.danger(4, false), 1000);
        c.same("those that lie, and those that do not", x.plan(), 6);
        int[] boards = {4, 7, 6, 8, 0, 5};
        for (int at = 0; at < boards.length; at++) {
            c.same("the board of " + at, x.numberOf(5 + at), boards[at]);
            c.same("the kind of " + at, x.kindOf(5 + at), at < 4 ? 'c' : 'u');
        }
    }

    @Edge("Terms: 'u' has the danger 0.")
    static void dangerOfUncovering(Checks c) {
        for (int danger = 0; danger <= 1; danger++) {
            for (boolean isPlannedFirst : new boolean[] {true, false}) {
                WayMarker x = withDetour();
                Offices.takeAsGone(x, 1);
                x.plan();
                c.same("covered", x.day(), 1);
                Offices.takeAsPassable(x, 1);
                if (isPlannedFirst) {
                    c.same("to uncover", x.plan(), 1);
                }
                x.addTask('r', 1, danger);
                c.same("to uncover, if it was not planned", x.plan(), isPlannedFirst ? 0 : 1);
                c.yes("0 against " + danger, isReplacedLast(c, x) == (danger == 0 && isPlannedFirst));
            }
        }
    }

    @Edge("Terms: As many are made as there is room for.")
    static void roomForTasks(Checks c) {
        for (int room = 0; room <= 4; room++) {
            WayMarker x = withBoards(3);
            for (int task = room; task < 40; task++) {
                x.addTask('m', 1, 0);
            }
            Offices.takeAsGone(x, 0);
            c.same("room for " + room, x.plan(), Math.min(room, 3));
            c.same("open with room for " + room, x.openTasks(), 40 - room + Math.min(room, 3));
            if (room > 0) {
                c.same("the first one is made", x.numberOf(40 - room), 0);
            }
            c.same("again with room for " + room, x.plan(), 0);
        }
        WayMarker y = withBoards(30);
        Offices.takeAsGone(y, 0);
        c.same("all boards", y.plan(), 30);
        c.same("the last one", y.numberOf(29), 29);
        c.same("nothing twice", y.plan(), 0);
    }

    @Edge({
        "Promise 19: Returns how many tasks are made.",
        "Promise 23: Returns how many tasks are open.",
    })
    static void nothingToPlan(Checks c) {
        WayMarker x = new WayMarker();
        c.same("without boards", x.plan(), 0);
        c.same("none is open", x.openTasks(), 0);
        WayMarker y = withBoards(30);
        c.same("no board lies", y.plan(), 0);
        c.same("none is open then", y.openTasks(), 0);
    }

    @Edge({
        "Promise 18: - `number`: the number of the trail, or of the board",
        "Promise 18: Returns the number of the task.",
    })
    static void numbersOfTasks(Checks c) {
        WayMarker x = Offices.withTrails(24);
        x.addWood(20);
        for (int board = 0; board < 30; board++) {
            x.cut(0, 1);
        }
        c.same("the first trail", x.addTask('m', 0, 0), 0);
        c.same("the last trail", x.addTask('m', 23, 0), 1);
        c.same("the first board", x.addTask('r', 0, 0), 2);
        c.same("the last board", x.addTask('r', 29, 0), 3);
        c.same("a board of a number that is no trail's", x.numberOf(3), 29);
        c.same("the last trail's number", x.numberOf(1), 23);
    }
}
