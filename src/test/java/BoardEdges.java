import java.util.NoSuchElementException;

/** The edges of wood, boards and their danger (promises 8 to 14). */
final class BoardEdges {
    private BoardEdges() {
    }

    /** A place 0 and a place 1 with a trail of so many minutes, and a place 2 beyond that. */
    private static WayMarker inARow(int first, int second) {
        WayMarker x = Offices.withForks(3);
        x.addTrail(0, 1, first, first);
        x.addTrail(1, 2, second, second);
        return x;
    }

    @Edge("Terms: At most 30 boards are numbered from 0.")
    static void thirtyBoards(Checks c) {
        WayMarker x = Offices.withTrails(1);
        x.addWood(21);
        for (int board = 0; board < 30; board++) {
            c.same("board", x.cut(board % 2, 1 - board % 2), board);
        }
        c.refuses("a 31st board", IllegalStateException.class, () -> x.cut(0, 1));
        c.same("the first board", x.told(0), 10);
        c.same("the last board", x.told(29), 10);
        x.addTask('r', 29, 0);
        x.addRanger(1, 1);
        c.same("the last one is replaced without room for more", x.day(), 1);
        c.refuses("a 31st board still", UnsupportedOperationException.class, () -> x.cut(0, 1));
        Offices.takeAsGone(x, 0);
        c.same("all of them lie", x.unsafe(false), 30);
    }

    @Edge({
        "Terms: A board stands at a fork, names a place, and tells a trail and minutes; it is covered, or not.",
        "Promise 9: - `fork`: the number of the fork",
        "Promise 9: - `place`: the fork that is the place",
    })
    static void whatABoardTells(Checks c) {
        WayMarker x = new WayMarker();
        x.addFork(false);
        x.addFork(true);
        x.addTrail(1, 0, 41, 12);
        c.same("from a fork that is no place", x.cut(0, 1), 0);
        c.same("it tells", x.told(0), 15);
        c.same("by the trail", x.trailOf(0), 0);
        c.no("it is not covered", x.isCovered(0));
        c.refuses("to a fork that is no place", IllegalArgumentException.class, () -> x.cut(1, 0));
    }

    @Edge("Terms: It is cut as the office takes trails then: the first trail of the way to the place, and its "
        + "minutes, rounded up to a number that can be divided by 5, if these are at most 300.")
    static void roundedUp(Checks c) {
        int[][] minutesAndTold = {
            {1, 5}, {4, 5}, {5, 5}, {6, 10}, {9, 10}, {10, 10}, {11, 15}, {294, 295}, {295, 295}, {296, 300},
            {299, 300}, {300, 300},
        };
        for (int[] due : minutesAndTold) {
            WayMarker x = Offices.withForks(2);
            x.addTrail(0, 1, due[0], 1);
            x.cut(0, 1);
            c.same("told of " + due[0], x.told(0), due[1]);
        }
        for (int second = 149; second <= 151; second++) {
            WayMarker x = inARow(150, second);
            if (second <= 150) {
                c.same("150 and " + second, x.cut(0, 2), 0);
                c.same("told", x.told(0), 300);
                c.same("the first trail", x.trailOf(0), 0);
            } else {
                c.refuses("301 minutes", NoSuchElementException.class, () -> x.cut(0, 2));
                c.refuses("301 minutes back", NoSuchElementException.class, () -> x.cut(2, 0));
            }
        }
    }

    @Edge("Terms: It is cut as the office takes trails then:")
    static void asTakenThen(Checks c) {
        WayMarker x = Offices.withForks(2);
        x.addTrail(0, 1, 10, 10);
        x.addTrail(0, 1, 10, 10);
        x.addTrail(0, 1, 31, 31);
        x.washOut(0);
        x.cut(0, 1);
        c.same("the lowest one, as the office does not know", x.trailOf(0), 0);
        Offices.takeAsGone(x, 0);
        x.cut(0, 1);
        c.same("the next one", x.trailOf(1), 1);
        Offices.takeAsGone(x, 1);
        x.cut(0, 1);
        c.same("the last one, though another one is passable", x.trailOf(2), 2);
        c.same("its minutes", x.told(2), 35);
        c.same("the first board tells as before", x.trailOf(0), 0);
        c.same("its minutes as before", x.told(0), 10);
        Offices.takeAsGone(x, 2);
        c.refuses("no way, as taken", NoSuchElementException.class, () -> x.cut(0, 1));
    }

    @Edge({
        "Terms: Each board takes 1 of the wood, 10 at first.",
        "Promise 8: Returns how much there is.",
    })
    static void woodForTen(Checks c) {
        WayMarker x = Offices.withTrails(1);
        for (int board = 0; board < 10; board++) {
            c.same("of the wood at first", x.cut(0, 1), board);
        }
        c.refuses("an 11th board", UnsupportedOperationException.class, () -> x.cut(0, 1));
        c.same("no wood was left", x.addWood(1), 1);
        c.same("one more board", x.cut(1, 0), 10);
        c.refuses("a 12th board", UnsupportedOperationException.class, () -> x.cut(0, 1));
        c.same("no wood was left again", x.addWood(99), 99);
        c.same("wood adds up", x.addWood(99), 198);
        c.same("to more than is of use", x.addWood(1), 199);
    }

    @Edge("Terms: By which trails are passable, as the office takes it or as it is, a board lies if its trail "
        + "is gone, or there is no way from the other end of its trail to its place: its danger is 1000 then.")
    static void dangerOf1000(Checks c) {
        WayMarker x = inARow(10, 10);
        x.cut(0, 2);
        x.addTrail(0, 1, 10, 10);
        x.washOut(0);
        c.same("its trail is gone, another one leads on", x.danger(0, true), 1000);
        c.same("as the office takes it", x.danger(0, false), 0);
        Offices.takeAsGone(x, 1);
        c.same("no way from the other end, as taken", x.danger(0, false), 1000);
        WayMarker y = inARow(10, 10);
        y.cut(0, 2);
        y.washOut(1);
        c.same("no way from the other end", y.danger(0, true), 1000);
        c.same("no way that the office knows of", y.danger(0, false), 0);
        y.addTrail(2, 0, 300, 300);
        c.same("a way back from the other end, and round", y.danger(0, true), 10 + 10 + 300 - 20);
    }

    @Edge("Terms: Otherwise, the minutes by its trail are those of the trail from its fork, and those of the "
        + "way from the other end; if they are more by 30 or more than the board tells, it lies, too, and what "
        + "they are more is its danger, but 999 at most.")
    static void moreBy30(Checks c) {
        // The board tells 20 of 18 minutes: more than it tells counts, not more than there were.
        for (int more = 28; more <= 32; more++) {
            WayMarker x = inARow(8, 10);
            x.cut(0, 2);
            x.addTrail(1, 2, 12 + more, 1);
            x.washOut(1);
            c.same("more by " + more, x.danger(0, true), more < 30 ? 0 : more);
            c.same("more by " + more + ", as taken", x.danger(0, false), 0);
            Offices.takeAsGone(x, 1);
            c.same("more by " + more + ", as taken now", x.danger(0, false), more < 30 ? 0 : more);
        }
        for (int more = 997; more <= 1002; more++) {
            WayMarker x = detourOf(more);
            c.same("more by " + more, x.danger(0, true), Math.min(more, 999));
            c.same("999 is not 1000", x.unsafe(true), 0);
        }
    }

    /** A board that tells 300 minutes, and a way by its trail that has so many more, between 900 and 1200. */
    private static WayMarker detourOf(int more) {
        WayMarker x = Offices.withForks(7);
        x.addTrail(0, 1, 100, 1);
        x.addTrail(1, 6, 200, 1);
        for (int fork = 1; fork < 5; fork++) {
            x.addTrail(fork, fork + 1, 280, 1);
        }
        x.addTrail(5, 6, more - 920, 1);
        x.cut(0, 6);
        x.washOut(1);
        return x;
    }

    @Edge({
        "Terms: The danger of one that does not lie is 0. A board that is covered can lie as well.",
        "Promise 13: Returns the danger, 0 if it does not lie.",
        "Promise 13: - `isTrue`: whether by trails as they are, or as the office takes them",
    })
    static void dangerOf0(Checks c) {
        WayMarker x = Offices.withForks(2);
        x.addTrail(0, 1, 296, 300);
        x.cut(0, 1);
        c.same("just as told, rounded", x.danger(0, true), 0);
        x.addTrail(0, 1, 1, 1);
        c.same("less than told by another trail", x.danger(0, false), 0);
        WayMarker y = inARow(10, 100);
        y.cut(0, 2);
        y.addTrail(1, 2, 1, 1);
        c.same("less than told by its trail", y.danger(0, true), 0);
        c.same("less than told by its trail, as taken", y.danger(0, false), 0);
        Offices.takeAsGone(y, 0);
        y.plan();
        y.addRanger(0, 0);
        c.same("covered", y.day(), 1);
        c.same("a covered one lies as taken", y.danger(0, false), 1000);
        c.same("a covered one lies not as it is", y.danger(0, true), 0);
    }

    @Edge({
        "Promise 14: Returns how many boards are not covered and lie with a danger of 1000.",
        "Promise 14: - `isTrue`: whether by trails as they are, or as the office takes them",
    })
    static void unsafeOnes(Checks c) {
        WayMarker none = new WayMarker();
        c.same("without boards", none.unsafe(true), 0);
        c.same("without boards, as taken", none.unsafe(false), 0);
        WayMarker x = Offices.withTrails(2);
        x.addWood(20);
        for (int board = 0; board < 30; board++) {
            x.cut(0, 1);
        }
        c.same("none lies", x.unsafe(true), 0);
        x.washOut(0);
        c.same("all lie", x.unsafe(true), 30);
        c.same("none lies as taken", x.unsafe(false), 0);
        Offices.takeAsGone(x, 0);
        c.same("all lie as taken", x.unsafe(false), 30);
        x.plan();
        x.addRanger(1, 0);
        c.same("47 would be covered in a day, but there are 30", x.day(), 30);
        c.same("none is open to be read", x.unsafe(true), 0);
        c.same("none is open to be read, as taken", x.unsafe(false), 0);
        c.same("the last one lies", x.danger(29, true), 1000);
    }

    @Edge("Promise 12: Returns whether it is.")
    static void coveredOnes(Checks c) {
        WayMarker x = Offices.withTrails(2);
        x.addWood(20);
        for (int board = 0; board < 29; board++) {
            x.cut(0, 1);
        }
        Offices.takeAsGone(x, 0);
        x.cut(0, 1);
        x.plan();
        x.addRanger(0, 0);
        c.same("all that lie", x.day(), 29);
        c.yes("the first one is covered", x.isCovered(0));
        c.yes("the last one that lies is covered", x.isCovered(28));
        c.no("the last one, which does not lie", x.isCovered(29));
    }
}
