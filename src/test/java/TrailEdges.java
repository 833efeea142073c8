import java.util.NoSuchElementException;

/** The edges of forks, trails and ways (promises 1 to 7), and of the use of an object. */
final class TrailEdges {
    private TrailEdges() {
    }

    @Edge("What it is: An object is used for at most 512 calls after it has been made; what later calls answer "
        + "is free.")
    static void theLastCallIsAnswered(Checks c) {
        WayMarker wood = new WayMarker();
        for (int call = 1; call <= 512; call++) {
            c.same("wood by call " + call, wood.addWood(99), 10 + 99 * call);
        }
        WayMarker x = Offices.withTrails(2);
        x.cut(0, 1);
        x.addRanger(0, 3);
        // Six calls so far.
        for (int call = 7; call <= 508; call++) {
            x.report(call % 8, call % 2, call % 16 < 8);
        }
        x.report(8, 0, true);
        x.report(9, 0, false);
        x.addTask('r', 0, 1);
        c.same("a day by the last call", x.day(), 1);
    }

    @Edge("Promise 1: Creates an office without trails, on the day 0.")
    static void newObject(Checks c) {
        WayMarker x = new WayMarker();
        c.refuses("a trail of a new object", IndexOutOfBoundsException.class, () -> x.isGone(0, false));
        c.same("its first map", x.print(), 0);
        c.same("printed today", x.age(0), 0);
        c.same("a day without rangers", x.day(), 0);
        c.same("the day 1", x.age(0), 1);
        for (int day = 2; day <= 50; day++) {
            c.same("a day without rangers", x.day(), 0);
        }
        c.same("the day 50", x.age(0), 50);
        c.refuses("days are counted from 0", IllegalStateException.class, () -> x.day());
    }

    @Edge("Terms: At most 16 forks are numbered from 0; some of them are places.")
    static void sixteenForks(Checks c) {
        WayMarker x = new WayMarker();
        for (int fork = 0; fork < 16; fork++) {
            c.same("fork", x.addFork(fork == 0 || fork == 15), fork);
        }
        c.refuses("a 17th fork", IllegalStateException.class, () -> x.addFork(true));
        x.addTrail(0, 15, 10, 20);
        x.addTrail(15, 14, 10, 20);
        c.same("to the last fork, a place", x.cut(0, 15), 0);
        c.same("to the first fork, a place", x.cut(15, 0), 1);
        c.refuses("to a fork that is none", IllegalArgumentException.class, () -> x.cut(15, 14));
        c.same("a ranger at the last fork", x.addRanger(15, 0), 0);
        c.same("where the ranger is", x.forkOf(0), 15);
    }

    @Edge("Terms: At most 24 trails are numbered from 0, each between two forks, with minutes from the first to the "
        + "second one, and back.")
    static void twentyFourTrails(Checks c) {
        WayMarker x = Offices.withForks(16);
        for (int trail = 0; trail < 23; trail++) {
            c.same("trail", x.addTrail(trail % 15, trail % 15 + 1, 300, 300), trail);
        }
        c.same("the last trail", x.addTrail(15, 0, 1, 300), 23);
        c.refuses("a 25th trail", IllegalStateException.class, () -> x.addTrail(0, 1, 1, 1));
        c.same("the last trail forth", x.minutes(15, 0, true), 1);
        c.same("the last trail back", x.minutes(0, 15, true), 300);
        c.same("the first trail", x.firstTrail(0, 1), 0);
        c.same("the last trail, as taken", x.firstTrail(15, 0), 23);
        c.yes("the last trail was passable", x.washOut(23));
        c.same("without the last trail", x.minutes(15, 0, true), 4500);
    }

    @Edge("Terms: A trail is passable, or gone; the office takes it as passable at first, and may be wrong.")
    static void passableOrGone(Checks c) {
        WayMarker x = Offices.withTrails(24);
        for (int trail = 0; trail < 24; trail++) {
            c.no("as it is at first", x.isGone(trail, true));
            c.no("as taken at first", x.isGone(trail, false));
        }
        c.yes("washOut", x.washOut(23));
        c.no("washOut again", x.washOut(23));
        c.yes("gone", x.isGone(23, true));
        c.no("the office is wrong", x.isGone(23, false));
        Offices.takeAsGone(x, 0);
        c.yes("taken as gone", x.isGone(0, false));
        c.no("the office is wrong the other way", x.isGone(0, true));
        c.yes("it is washed out behind that", x.washOut(0));
        c.no("a trail between is as it was", x.isGone(1, true) || x.isGone(22, true));
        c.no("a trail between is taken as it was", x.isGone(1, false) || x.isGone(22, false));
    }

    @Edge("Terms: The way from a fork to another one, as the office takes it, is that with the least minutes by "
        + "trails that it does not take as gone;")
    static void leastMinutes(Checks c) {
        for (int straight = 59; straight <= 61; straight++) {
            WayMarker x = Offices.withForks(3);
            x.addTrail(0, 1, 30, 40);
            x.addTrail(1, 2, 30, 40);
            x.addTrail(2, 0, 80, straight);
            c.same("60 minutes, or " + straight, x.minutes(0, 2, false), Math.min(60, straight));
            c.same("back", x.minutes(2, 0, false), 80);
            Offices.takeAsGone(x, 1);
            c.same("60 minutes are no more", x.minutes(0, 2, false), straight);
            c.same("as it is", x.minutes(0, 2, true), Math.min(60, straight));
        }
        WayMarker x = Offices.withForks(16);
        for (int fork = 14; fork >= 0; fork--) {
            x.addTrail(fork + 1, fork, 1, 300);
        }
        c.same("the longest way there can be", x.minutes(0, 15, true), 4500);
        c.same("back by the shortest trails", x.minutes(15, 0, false), 15);
        c.same("to the next fork", x.minutes(14, 15, false), 300);
        Offices.takeAsGone(x, 7);
        c.refuses("no way any more", NoSuchElementException.class, () -> x.minutes(0, 15, false));
        c.refuses("nor back", NoSuchElementException.class, () -> x.minutes(15, 0, false));
        c.same("up to there", x.minutes(0, 7, false), 2100);
        c.same("from there on", x.minutes(15, 8, false), 7);
    }

    @Edge("Terms: at each fork, of several trails by which it comes to as few minutes, it goes by the lowest one.")
    static void lowestTrail(Checks c) {
        for (int forth = 29; forth <= 31; forth++) {
            WayMarker x = Offices.withForks(3);
            x.addTrail(0, 1, 20, 20);
            x.addTrail(1, 2, 10, 10);
            x.addTrail(0, 2, forth, 30);
            c.same("20 and 10, or " + forth, x.firstTrail(0, 2), forth < 30 ? 2 : 0);
            c.same("10 and 20, or 30", x.firstTrail(2, 0), 1);
        }
        for (int forth = 29; forth <= 31; forth++) {
            WayMarker x = Offices.withForks(3);
            x.addTrail(2, 0, 30, forth);
            x.addTrail(0, 1, 20, 20);
            x.addTrail(1, 2, 10, 10);
            c.same("the lowest one is " + forth, x.firstTrail(0, 2), forth > 30 ? 1 : 0);
            c.same("the lowest one back", x.firstTrail(2, 0), 0);
        }
        WayMarker y = Offices.withTrails(24);
        for (int trail = 0; trail < 24; trail++) {
            c.same("the lowest one of the rest", y.firstTrail(0, 1), trail);
            c.same("the lowest one of the rest, back", y.firstTrail(1, 0), trail);
            Offices.takeAsGone(y, trail);
        }
        c.refuses("no rest", NoSuchElementException.class, () -> y.firstTrail(0, 1));
    }

    @Edge("Terms: The way from a fork to itself has 0 minutes.")
    static void toItself(Checks c) {
        WayMarker x = Offices.withForks(16);
        x.addTrail(0, 1, 1, 1);
        for (int fork = 0; fork < 16; fork++) {
            c.same("as it is", x.minutes(fork, fork, true), 0);
            c.same("as taken", x.minutes(fork, fork, false), 0);
        }
        x.washOut(0);
        Offices.takeAsGone(x, 0);
        c.same("without any trail", x.minutes(0, 0, true), 0);
        c.same("without any trail, as taken", x.minutes(1, 1, false), 0);
    }

    @Edge({
        "Promise 6: `isTrue`: whether by trails as they are, or as the office takes them",
        "Promise 7: Returns the first trail of a way, as the office takes it.",
    })
    static void asItIsOrAsTaken(Checks c) {
        WayMarker x = Offices.withForks(2);
        x.addTrail(0, 1, 10, 11);
        x.addTrail(0, 1, 20, 21);
        x.addTrail(0, 1, 30, 31);
        x.washOut(0);
        Offices.takeAsGone(x, 1);
        c.same("as it is", x.minutes(0, 1, true), 20);
        c.same("as taken", x.minutes(0, 1, false), 10);
        c.same("back as it is", x.minutes(1, 0, true), 21);
        c.same("back as taken", x.minutes(1, 0, false), 11);
        c.same("the first trail is as taken", x.firstTrail(0, 1), 0);
    }

    @Edge("Promise 4: Returns whether it was passable.")
    static void washOutOfEach(Checks c) {
        WayMarker x = Offices.withTrails(24);
        for (int trail = 0; trail < 24; trail++) {
            c.yes("it was", x.washOut(trail));
            c.no("it was not", x.washOut(trail));
        }
        Offices.takeAsGone(x, 0);
        x.addRanger(0, 2);
        x.addTask('m', 0, 0);
        c.same("mended", x.day(), 1);
        c.yes("a mended one was passable", x.washOut(0));
        Offices.takeAsGone(x, 5);
        c.no("one that is gone, as the office knows", x.washOut(5));
    }
}
