import java.util.NoSuchElementException;

/** The edges of rangers and their days (promises 24 to 27). */
final class RangerEdges {
    private static final int DAY = 480;

    private RangerEdges() {
    }

    /** So many boards at the fork 0, told by a trail of 10 minutes to the fork 1, and a task to replace each one. */
    private static WayMarker toReplace(int boards) {
        WayMarker x = Offices.withTrails(1);
        x.addWood(60);
        for (int board = 0; board < boards; board++) {
            x.cut(0, 1);
            x.addTask('r', board, 0);
        }
        return x;
    }

    @Edge({
        "Terms: At most 4 rangers are numbered from 0, each at a fork, with tools, the sum of 1 and 2.",
        "Promise 24: Returns the number of the ranger.",
        "Promise 25: Returns the number of the fork.",
    })
    static void fourRangers(Checks c) {
        WayMarker x = Offices.withForks(16);
        for (int ranger = 0; ranger < 4; ranger++) {
            c.same("ranger", x.addRanger(15 * (ranger % 2), ranger), ranger);
        }
        c.refuses("a fifth one", IllegalStateException.class, () -> x.addRanger(0, 0));
        for (int ranger = 0; ranger < 4; ranger++) {
            c.same("at a fork", x.forkOf(ranger), 15 * (ranger % 2));
            c.same("no minutes", x.worked(ranger), 0);
        }
        c.refuses("no fifth one", IndexOutOfBoundsException.class, () -> x.forkOf(4));
        c.same("nothing to do", x.day(), 0);
        c.same("the last one stays", x.forkOf(3), 15);
    }

    @Edge("Terms: For 'r' and 'm', a ranger needs the tool 1 or 2.")
    static void toolsOfEach(Checks c) {
        for (int tools = 0; tools <= 3; tools++) {
            WayMarker x = toReplace(1);
            x.addTrail(1, 0, 20, 20);
            Offices.takeAsGone(x, 1);
            x.addTask('m', 1, 0);
            x.addRanger(1, tools);
            boolean canReplace = tools == 1 || tools == 3;
            boolean canMend = tools == 2 || tools == 3;
            c.same("done with " + tools, x.day(), (canReplace ? 1 : 0) + (canMend ? 1 : 0));
            c.same("replaced with " + tools, x.addWood(1), canReplace ? 69 : 70);
            c.yes("mended with " + tools, x.isGone(1, false) != canMend);
        }
        WayMarker x = toReplace(1);
        Offices.takeAsGone(x, 0);
        x.plan();
        x.addRanger(0, 0);
        c.same("to cover, no tool is needed", x.day(), 1);
        Offices.takeAsPassable(x, 0);
        x.plan();
        c.same("to uncover, no tool is needed", x.day(), 1);
        c.same("to replace, one is", x.openTasks(), 1);
    }

    @Edge({
        "Terms: In a day, rangers go one behind the other, each with 480 minutes.",
        "Terms: When the task is done, it is over, and the ranger takes the next one.",
        "Promise 27: Returns how many tasks were done.",
        "Promise 26: Returns the minutes.",
    })
    static void minutesOfADay(Checks c) {
        WayMarker x = toReplace(17);
        x.addRanger(0, 1);
        c.same("16 of 30 minutes are all of a day", x.day(), 16);
        c.same("all of them", x.worked(0), DAY);
        c.refuses("the 17th is open", NoSuchElementException.class, () -> x.doneBy(16));
        c.same("a new day", x.day(), 1);
        c.same("30 more", x.worked(0), DAY + 30);
        WayMarker y = toReplace(30);
        for (int ranger = 0; ranger < 4; ranger++) {
            y.addRanger(ranger % 2, 1);
        }
        c.same("all of them by two", y.day(), 30);
        c.same("16 by the first", y.worked(0), DAY);
        c.same("14 by the second, and its way", y.worked(1), 14 * 30 + 10);
        c.same("none by the third", y.worked(2), 0);
        c.same("none by the fourth", y.worked(3), 0);
        c.same("the last one of the first", y.doneBy(15), 0);
        c.same("the first one of the second", y.doneBy(16), 1);
        c.same("the fourth does not come nearer", y.forkOf(3), 1);
    }

    @Edge("Terms: Tasks 'c', 'u' and 'r' are done at the fork of the board, 10, 10 and 30 minutes; 'm' at the "
        + "first fork of the trail, 200 minutes.")
    static void minutesOfEachKind(Checks c) {
        WayMarker x = Offices.withTrails(2);
        x.cut(1, 0);
        x.addRanger(0, 3);
        Offices.takeAsGone(x, 0);
        x.plan();
        x.day();
        c.same("the way of 10, and 10 to cover", x.worked(0), 20);
        c.same("at the fork of the board", x.forkOf(0), 1);
        Offices.takeAsPassable(x, 0);
        x.plan();
        x.day();
        c.same("10 to uncover", x.worked(0), 30);
        x.addTask('r', 0, 0);
        x.day();
        c.same("30 to replace", x.worked(0), 60);
        Offices.takeAsGone(x, 0);
        x.addTask('m', 0, 0);
        x.day();
        c.same("the way of 10, and 200 to mend", x.worked(0), 270);
        c.same("at the first fork of the trail", x.forkOf(0), 0);
    }

    /** A ranger at the fork 2, and a way of 300 and of so many minutes to the fork 0, where the board 0 is. */
    private static WayMarker farAway(int minutes, int tools) {
        WayMarker x = Offices.withForks(4);
        x.addTrail(1, 0, 300, 300);
        x.addTrail(2, 1, minutes, 1);
        x.addTrail(0, 3, 5, 5);
        x.cut(0, 3);
        x.addRanger(2, tools);
        return x;
    }

    @Edge("Terms: and whose way there, as the office takes it, and doing it, are no more minutes than are left;")
    static void justInTime(Checks c) {
        for (int minutes = 169; minutes <= 171; minutes++) {
            WayMarker x = farAway(minutes, 0);
            Offices.takeAsGone(x, 2);
            x.plan();
            c.same("to cover behind 300 and " + minutes, x.day(), minutes <= 170 ? 1 : 0);
            c.same("minutes", x.worked(0), minutes <= 170 ? 310 + minutes : 0);
            c.same("where the ranger is", x.forkOf(0), minutes <= 170 ? 0 : 2);
        }
        for (int minutes = 169; minutes <= 171; minutes++) {
            WayMarker x = farAway(minutes, 0);
            Offices.takeAsGone(x, 2);
            x.plan();
            x.addRanger(0, 0);
            // The second ranger covers what is too far for the first one, who is kept away by a trail taken as gone.
            Offices.takeAsGone(x, 1);
            c.same("covered by the second ranger", x.day(), 1);
            c.same("the second ranger did it", x.doneBy(0), 1);
            Offices.takeAsPassable(x, 1);
            Offices.takeAsPassable(x, 2);
            c.same("to uncover", x.plan(), 1);
            c.same("uncovered by one of them", x.day(), 1);
            c.same("to uncover behind 300 and " + minutes, x.doneBy(1), minutes <= 170 ? 0 : 1);
        }
        for (int minutes = 149; minutes <= 151; minutes++) {
            WayMarker x = farAway(minutes, 1);
            x.addTask('r', 0, 0);
            c.same("to replace behind 300 and " + minutes, x.day(), minutes <= 150 ? 1 : 0);
            c.same("minutes", x.worked(0), minutes <= 150 ? 330 + minutes : 0);
        }
        for (int minutes = 279; minutes <= 281; minutes++) {
            WayMarker x = Offices.withForks(2);
            x.addTrail(0, 1, 1, minutes);
            x.addTrail(0, 1, 1, 1);
            Offices.takeAsGone(x, 1);
            x.addTask('m', 1, 0);
            x.addRanger(1, 2);
            c.same("to mend behind " + minutes, x.day(), minutes <= 280 ? 1 : 0);
            c.same("minutes", x.worked(0), minutes <= 280 ? 200 + minutes : 0);
        }
    }

    @Edge("Terms: are no more minutes than are left;")
    static void justInTimeBehindOtherTasks(Checks c) {
        for (int way = 19; way <= 21; way++) {
            WayMarker x = Offices.withForks(4);
            x.addTrail(0, 1, way, 1);
            x.addTrail(1, 2, 10, 10);
            x.addTrail(2, 3, 10, 10);
            x.addTrail(2, 3, 50, 50);
            x.cut(0, 1);
            x.addWood(90);
            x.cut(1, 3);
            Offices.takeAsGone(x, 2);
            x.plan();
            for (int task = 0; task < 15; task++) {
                x.addTask('r', 0, 41);
            }
            x.addRanger(0, 1);
            // 15 tasks of 30 minutes leave 30: for a way of 20 and 10 to cover.
            c.same("done with a way of " + way, x.day(), way <= 20 ? 16 : 15);
            c.same("minutes", x.worked(0), way <= 20 ? 450 + way + 10 : 450);
            c.same("where the ranger is", x.forkOf(0), way <= 20 ? 1 : 0);
            c.same("what is left is done the next day", x.day(), way <= 20 ? 0 : 1);
        }
    }

    @Edge("Terms: A ranger takes the open task with the most danger, of several the lowest one, for which there "
        + "is the tool, which can be done,")
    static void mostDanger(Checks c) {
        int[] dangers = {0, 998, 999, 1, 999, 0};
        int[] order = {2, 4, 1, 3, 0, 5};
        for (int done = 1; done <= 5; done++) {
            WayMarker x = Offices.withForks(3);
            x.addTrail(0, 1, 10, 180 - 30 * done);
            x.addTrail(2, 1, 300, 1);
            for (int board = 0; board < dangers.length; board++) {
                x.cut(0, 1);
                x.addTask('r', board, dangers[board]);
            }
            x.addWood(9);
            x.addRanger(2, 1);
            c.same("time for " + done, x.day(), done);
            for (int at = 0; at < order.length; at++) {
                int task = order[at];
                if (at < done) {
                    c.same("done is " + task, x.doneBy(task), 0);
                } else {
                    c.refuses("open is " + task, NoSuchElementException.class, () -> x.doneBy(task));
                }
            }
        }
        WayMarker x = toReplace(2);
        x.addTrail(0, 1, 20, 20);
        Offices.takeAsGone(x, 1);
        x.addTask('m', 1, 999);
        x.addTask('r', 1, 5);
        x.addRanger(0, 1);
        c.same("without the tool for the most danger, the others", x.day(), 3);
        c.refuses("that one is open", NoSuchElementException.class, () -> x.doneBy(2));
    }

    @Edge({
        "Terms: A bridge that is gone turns arrows a day's walk away; boards that lie are covered in the order "
            + "of their danger, and each task is walked by one ranger.",
    })
    static void arrowsADaysWalkAway(Checks c) {
        WayMarker x = Offices.withForks(6);
        x.addTrail(0, 1, 60, 60);
        x.addTrail(1, 2, 60, 60);
        x.addTrail(2, 3, 60, 60);
        x.addTrail(2, 3, 100, 100);
        x.cut(0, 3);
        x.cut(2, 3);
        x.washOut(2);
        c.same("it lies two trails away", x.danger(0, true), 40);
        c.same("it lies at the bridge", x.danger(1, true), 1000);
        Offices.takeAsGone(x, 2);
        c.same("both are to be covered", x.plan(), 2);
        for (int ranger = 0; ranger < 4; ranger++) {
            x.addRanger(0, 0);
        }
        c.same("both are covered", x.day(), 2);
        c.same("by one ranger", x.doneBy(0), 0);
        c.same("by one ranger, too", x.doneBy(1), 0);
        c.same("the one with more danger first: to the fork 2 and back", x.worked(0), 260);
        c.same("the last one is at the fork 0", x.forkOf(0), 0);
        for (int ranger = 1; ranger < 4; ranger++) {
            c.same("the others do not walk", x.worked(ranger), 0);
        }
    }

    @Edge("Terms: it can be done if it makes sense: 'c' of one that is not covered, 'u' of one that is;")
    static void coverAndUncover(Checks c) {
        WayMarker x = Offices.withTrails(1);
        x.addTrail(0, 1, 100, 100);
        x.cut(0, 1);
        x.addRanger(0, 1);
        Offices.takeAsGone(x, 0);
        x.plan();
        x.day();
        Offices.takeAsPassable(x, 0);
        x.plan();
        x.addTask('r', 0, 1);
        c.same("replaced alone: it is uncovered by that", x.day(), 1);
        c.same("to uncover is open, and makes no sense", x.openTasks(), 1);
        c.same("nor does it the next day", x.day(), 0);
        c.same("40 minutes", x.worked(0), 40);
        Offices.takeAsGone(x, 0);
        c.same("to cover again", x.plan(), 1);
        // To uncover makes sense again as soon as the board is covered, though the board lies.
        c.same("covered, and uncovered by the task that was open", x.day(), 2);
        c.no("uncovered", x.isCovered(0));
        c.same("60 minutes", x.worked(0), 60);
        c.same("none is open", x.openTasks(), 0);
    }

    @Edge("Terms: 'r' if there is wood, and the board could be cut anew;")
    static void replaceIfItCanBeCut(Checks c) {
        for (int wood = 0; wood <= 2; wood++) {
            WayMarker x = Offices.withTrails(1);
            for (int board = 0; board < 10; board++) {
                x.cut(0, 1);
            }
            if (wood > 0) {
                x.addWood(wood);
            }
            x.addTask('r', 0, 0);
            x.addTask('r', 1, 0);
            x.addRanger(1, 1);
            c.same("with wood " + wood, x.day(), wood);
            c.same("minutes with wood " + wood, x.worked(0), wood == 0 ? 0 : 10 + 30 * wood);
            c.same("no wood is left", x.addWood(1), 1);
        }
        for (int minutes = 299; minutes <= 301; minutes++) {
            WayMarker x = Offices.withForks(3);
            x.addTrail(0, 1, 10, 10);
            x.addTrail(0, 2, 150, 5);
            x.addTrail(2, 1, minutes - 150, 5);
            x.cut(0, 1);
            x.addTask('r', 0, 0);
            x.addRanger(2, 1);
            Offices.takeAsGone(x, 0);
            c.same("a way of " + minutes, x.day(), minutes <= 300 ? 1 : 0);
            c.same("minutes", x.worked(0), minutes <= 300 ? 35 : 0);
            c.same("it tells", x.told(0), minutes <= 300 ? 300 : 10);
        }
        WayMarker x = toReplace(1);
        x.addRanger(0, 1);
        Offices.takeAsGone(x, 0);
        c.same("no way to the place", x.day(), 0);
        Offices.takeAsPassable(x, 0);
        c.same("a way again", x.day(), 1);
        WayMarker full = Offices.withTrails(1);
        full.addWood(21);
        for (int board = 0; board < 30; board++) {
            full.cut(0, 1);
        }
        full.addTask('r', 29, 0);
        full.addRanger(0, 1);
        c.same("30 boards are no hindrance", full.day(), 1);
    }

    @Edge("Terms: 'm' if the trail is taken as gone.")
    static void mendIfTakenAsGone(Checks c) {
        WayMarker x = Offices.withTrails(1);
        x.addTask('m', 0, 0);
        x.addRanger(0, 2);
        c.same("passable", x.day(), 0);
        x.washOut(0);
        c.same("gone, but the office does not know", x.day(), 0);
        c.same("no minutes", x.worked(0), 0);
        Offices.takeAsGone(x, 0);
        c.same("taken as gone", x.day(), 1);
        c.same("200 minutes", x.worked(0), 200);
    }

    @Edge("Terms: The ranger goes trail by trail, at each fork by the way as the office takes it then.")
    static void trailByTrail(Checks c) {
        WayMarker x = Offices.withForks(4);
        x.addTrail(0, 1, 20, 1);
        x.addTrail(0, 2, 20, 1);
        x.addTrail(2, 3, 10, 1);
        x.addTrail(1, 3, 10, 1);
        x.addTrail(1, 3, 10, 1);
        x.addTrail(0, 3, 31, 1);
        x.cut(3, 0);
        for (int trail = 0; trail < 6; trail++) {
            x.report(trail, trail, false);
        }
        x.addTask('r', 0, 0);
        x.addRanger(0, 1);
        c.same("done", x.day(), 1);
        int[] due = {60, 50, 50, 60, 50, 50};
        for (int trail = 0; trail < 6; trail++) {
            c.same("seen or not: " + trail, x.trust(trail), due[trail]);
        }
        c.same("30 minutes of way", x.worked(0), 60);
    }

    /**
     * A ranger at the fork 0 and a board at the fork 2, by 10 minutes and a trail that is gone, or from the fork 1 back
     * and by a trail of 300 minutes and one of so many more.
     */
    private static WayMarker withGoneTrail(int more) {
        WayMarker x = Offices.withForks(4);
        x.addTrail(0, 1, 10, 10);
        x.addTrail(1, 2, 10, 10);
        x.addTrail(0, 3, 300, 1);
        x.addTrail(3, 2, more, 1);
        x.cut(2, 0);
        x.washOut(1);
        return x;
    }

    @Edge("Terms: Each trail by which the ranger is to go is seen at first: if it is gone, the ranger looks for "
        + "a way anew, and goes on by it if it, with doing the task, is no more than what is left;")
    static void wayAnewInTime(Checks c) {
        // 470 are left at the fork 1: 10 back, 300, 30 for the task, and 130.
        for (int more = 129; more <= 131; more++) {
            WayMarker x = withGoneTrail(more);
            x.addTask('r', 0, 0);
            x.addRanger(0, 1);
            c.same("to replace, " + more, x.day(), more <= 130 ? 1 : 0);
            c.same("minutes", x.worked(0), more <= 130 ? 350 + more : 10);
            c.same("where the ranger is", x.forkOf(0), more <= 130 ? 2 : 1);
            c.yes("seen", x.isGone(1, false));
        }
        // 10 for the task, and 150.
        for (int more = 149; more <= 151; more++) {
            WayMarker x = withGoneTrail(more);
            x.addTrail(0, 2, 300, 1);
            x.cut(2, 0);
            Offices.takeAsGone(x, 4);
            c.same("the board that tells the new trail", x.plan(), 1);
            x.addRanger(0, 0);
            c.same("to cover, " + more, x.day(), more <= 150 ? 1 : 0);
            c.same("minutes", x.worked(0), more <= 150 ? 330 + more : 10);
        }
    }

    @Edge("Terms: and goes on by it if it, with doing the task, is no more than what is left;")
    static void wayAnewInTimeToMend(Checks c) {
        // 470 are left at the fork 1: 10 back, 200 to mend, and 260.
        for (int way = 259; way <= 261; way++) {
            WayMarker x = Offices.withForks(4);
            x.addTrail(0, 1, 10, 10);
            x.addTrail(1, 2, 10, 10);
            x.addTrail(0, 2, way, 1);
            x.addTrail(2, 3, 10, 10);
            x.washOut(1);
            Offices.takeAsGone(x, 3);
            x.addTask('m', 3, 0);
            x.addRanger(0, 2);
            c.same("to mend, " + way, x.day(), way <= 260 ? 1 : 0);
            c.same("minutes", x.worked(0), way <= 260 ? 220 + way : 10);
            c.same("where the ranger is", x.forkOf(0), way <= 260 ? 2 : 1);
        }
    }

    @Edge("Terms: Each trail by which the ranger is to go is seen at first:")
    static void seenAtFirst(Checks c) {
        WayMarker x = Offices.withTrails(3);
        x.cut(1, 0);
        x.addTask('r', 0, 0);
        x.addRanger(0, 1);
        x.washOut(0);
        x.washOut(1);
        c.same("two are seen as gone, one behind the other", x.day(), 1);
        c.yes("the first one", x.isGone(0, false));
        c.yes("the second one", x.isGone(1, false));
        c.no("the third one", x.isGone(2, false));
        c.same("they are not walked", x.worked(0), 40);
        WayMarker y = Offices.withTrails(24);
        y.cut(1, 0);
        y.addTask('r', 0, 0);
        y.addRanger(0, 1);
        for (int trail = 0; trail < 24; trail++) {
            y.washOut(trail);
        }
        c.same("all are gone", y.day(), 0);
        c.same("no minutes", y.worked(0), 0);
        for (int trail = 0; trail < 24; trail++) {
            c.yes("each of them is seen", y.isGone(trail, false));
        }
    }

    @Edge("Terms: otherwise the ranger leaves the task for now, and takes a task anew.")
    static void leavesTheTaskForNow(Checks c) {
        WayMarker x = withGoneTrail(300);
        x.cut(1, 0);
        x.addTask('r', 0, 9);
        x.addTask('r', 1, 1);
        x.addTask('r', 1, 2);
        x.addRanger(0, 1);
        c.same("the two others, where the ranger is", x.day(), 2);
        c.same("10 of way and 30 each", x.worked(0), 70);
        c.same("the ranger stays there", x.forkOf(0), 1);
        c.same("the task is open", x.openTasks(), 1);
        c.same("too far the next day as well", x.day(), 0);
        x.addRanger(1, 2);
        x.addTask('m', 1, 0);
        c.same("mended by the second ranger", x.day(), 1);
        c.same("and done by the first one then", x.day(), 1);
        c.same("its doer", x.doneBy(0), 0);
        c.same("10 of way and 30 more", x.worked(0), 110);
        WayMarker y = withGoneTrail(300);
        y.addTask('r', 0, 9);
        y.addTask('m', 1, 1);
        y.addRanger(0, 3);
        c.same("left, mended by the same ranger, and done the same day", y.day(), 2);
        c.same("minutes", y.worked(0), 10 + 200 + 10 + 30);
        c.same("where the ranger is", y.forkOf(0), 2);
    }

    @Edge("Terms: So does a ranger who comes to where the task is to be done, if it cannot be done any more.")
    static void cannotBeDoneAnyMore(Checks c) {
        // The board at the fork 0 tells a trail to the fork 2, where the ranger sees it as gone, and comes by others.
        for (int second = 149; second <= 151; second++) {
            WayMarker x = Offices.withForks(3);
            x.addTrail(0, 2, 20, 20);
            x.addTrail(0, 1, 150, 15);
            x.addTrail(1, 2, second, 15);
            x.cut(0, 2);
            x.cut(1, 0);
            x.addTask('r', 0, 9);
            x.addTask('r', 1, 1);
            x.addRanger(2, 1);
            x.washOut(0);
            boolean canBeCut = second <= 150;
            c.same("cut with a way of 150 and " + second, x.day(), canBeCut ? 2 : 1);
            c.same("the board that is replaced all the same", x.doneBy(1), 0);
            c.same("minutes", x.worked(0), 30 + (canBeCut ? 30 : 0) + 150 + 30);
            c.same("open", x.openTasks(), canBeCut ? 0 : 1);
            c.same("wood", x.addWood(1), canBeCut ? 7 : 8);
            c.same("what the board tells", x.told(0), canBeCut ? 300 : 20);
        }
        WayMarker x = Offices.withForks(3);
        x.addTrail(0, 2, 20, 20);
        x.addTrail(1, 2, 15, 15);
        x.addTrail(0, 1, 300, 15);
        x.cut(0, 2);
        x.addTask('r', 0, 9);
        x.addRanger(2, 1);
        x.washOut(0);
        c.same("315 minutes to the place", x.day(), 0);
        c.same("the ranger came there", x.forkOf(0), 0);
        c.same("30 minutes", x.worked(0), 30);
        c.same("not the next day", x.day(), 0);
        c.same("30 minutes still", x.worked(0), 30);
    }

    @Edge("Terms: A ranger stays where the last way ended.")
    static void staysThere(Checks c) {
        WayMarker x = Offices.withForks(3);
        x.addTrail(0, 1, 300, 300);
        x.addTrail(1, 2, 300, 300);
        x.cut(1, 0);
        x.addTask('r', 0, 0);
        x.addRanger(0, 1);
        c.same("done", x.day(), 1);
        c.same("at the fork 1", x.forkOf(0), 1);
        c.same("nothing to do", x.day(), 0);
        c.same("at the fork 1 still", x.forkOf(0), 1);
        x.cut(2, 1);
        x.addTask('r', 1, 0);
        c.same("from there it is in time", x.day(), 1);
        c.same("at the fork 2", x.forkOf(0), 2);
        c.same("minutes of three days", x.worked(0), 660);
    }

    @Edge("Terms: Mending a trail that is found passable takes its time all the same, and is done.")
    static void foundPassable(Checks c) {
        WayMarker x = Offices.withTrails(3);
        for (int trail = 0; trail < 3; trail++) {
            Offices.takeAsGone(x, trail);
            x.addTask('m', trail, 0);
            x.report(0, trail, false);
        }
        x.addRanger(0, 2);
        c.same("two of 200 minutes, and no time for a third one", x.day(), 2);
        c.same("400 minutes", x.worked(0), 400);
        c.same("done", x.doneBy(0), 0);
        c.no("passable", x.isGone(0, true));
        c.no("taken as passable", x.isGone(0, false));
        c.same("who said so", x.trust(0), 70);
        c.same("who said otherwise", x.trust(9), 10);
        c.yes("the third one is taken as gone still", x.isGone(2, false));
        c.same("the third one the next day", x.day(), 1);
        c.same("no less than 0", x.trust(9), 0);
    }

    @Edge("Promise 26: Returns how many minutes a ranger has walked and worked in all.")
    static void walkedAndWorked(Checks c) {
        WayMarker x = withGoneTrail(300);
        x.addTask('r', 0, 0);
        x.addRanger(0, 1);
        c.same("none at first", x.worked(0), 0);
        c.same("walked, and left the task", x.day(), 0);
        c.same("what was walked counts", x.worked(0), 10);
        x.cut(1, 0);
        x.addTask('r', 1, 0);
        c.same("worked", x.day(), 1);
        c.same("what was worked counts", x.worked(0), 40);
    }
}
