/** The edges of maps and figures (promises 28 to 33). */
final class MapEdges {
    private MapEdges() {
    }

    @Edge({
        "Terms: A map in print shows which trails the office took as passable, and the day.",
        "Promise 28: Returns its number.",
        "Promise 29: Returns whether it does.",
    })
    static void whatTheOfficeTook(Checks c) {
        WayMarker x = Offices.withTrails(24);
        x.washOut(0);
        Offices.takeAsGone(x, 23);
        c.same("the first map", x.print(), 0);
        c.yes("gone, but taken as passable", x.shows(0, 0));
        c.no("passable, but taken as gone", x.shows(0, 23));
        for (int trail = 1; trail < 23; trail++) {
            c.yes("passable", x.shows(0, trail));
        }
        Offices.takeAsGone(x, 0);
        Offices.takeAsPassable(x, 23);
        c.yes("it shows what it showed", x.shows(0, 0));
        c.no("it does not show what it did not", x.shows(0, 23));
        c.same("the second map", x.print(), 1);
        c.no("taken as gone now", x.shows(1, 0));
        c.yes("taken as passable now", x.shows(1, 23));
    }

    @Edge("Terms: A map in print shows which trails the office took as passable,")
    static void trailsThatWereNotThere(Checks c) {
        WayMarker x = Offices.withForks(2);
        c.same("a map without trails", x.print(), 0);
        c.refuses("a trail that is not there", IndexOutOfBoundsException.class, () -> x.shows(0, 0));
        for (int trail = 0; trail < 24; trail++) {
            x.addTrail(0, 1, 5, 5);
        }
        c.same("a map of all trails", x.print(), 1);
        for (int trail = 0; trail < 24; trail++) {
            c.no("it was not there when the first map was printed", x.shows(0, trail));
            c.yes("it is on the second one", x.shows(1, trail));
        }
    }

    @Edge("Terms: At most 10 maps are printed.")
    static void tenMaps(Checks c) {
        WayMarker x = Offices.withTrails(10);
        for (int map = 0; map < 10; map++) {
            Offices.takeAsGone(x, map);
            c.same("map", x.print(), map);
        }
        c.refuses("an 11th map", IllegalStateException.class, () -> x.print());
        for (int map = 0; map < 10; map++) {
            for (int trail = 0; trail < 10; trail++) {
                c.yes("trail " + trail + " on map " + map, x.shows(map, trail) == trail > map);
            }
        }
        x.day();
        c.refuses("nor is there room the next day", IllegalStateException.class, () -> x.print());
        c.same("the last one is a day old", x.age(9), 1);
    }

    @Edge({
        "Promise 30: Returns the number of days.",
        "Promise 27: Throws `IllegalStateException` if 50 days have passed",
    })
    static void daysAgo(Checks c) {
        WayMarker x = new WayMarker();
        x.print();
        c.same("today", x.age(0), 0);
        for (int day = 1; day <= 50; day++) {
            x.day();
            c.same("days ago", x.age(0), day);
        }
        x.print();
        c.same("on the last day", x.age(1), 0);
        c.refuses("a 51st day", IllegalStateException.class, () -> x.day());
        c.same("50 days ago still", x.age(0), 50);
        c.same("today still", x.age(1), 0);
    }

    @Edge("Promise 31: Returns their number divided by that of all, both converted to float.")
    static void shares(Checks c) {
        for (int trails = 1; trails <= 24; trails++) {
            WayMarker x = Offices.withTrails(trails);
            for (int known = trails; known > 0; known--) {
                c.same("known " + known + " of " + trails, x.knownShare(), (float) known / (float) trails);
                x.washOut(known - 1);
            }
            c.same("none of " + trails, x.knownShare(), 0f);
        }
        WayMarker x = Offices.withTrails(1);
        Offices.takeAsGone(x, 0);
        c.same("taken as gone, and passable", x.knownShare(), 0f);
        x.washOut(0);
        c.same("taken as gone, and gone", x.knownShare(), 1f);
    }

    @Edge("Promise 32: Returns the sum divided by their number, both converted to double.")
    static void means(Checks c) {
        for (int boards = 1; boards <= 30; boards++) {
            WayMarker x = Offices.withForks(3);
            x.addTrail(0, 1, 5, 5);
            x.addTrail(1, 2, 5, 5);
            x.addTrail(1, 2, 36, 36);
            x.addWood(20);
            for (int board = 0; board < boards; board++) {
                x.cut(board % 3 == 1 ? 1 : 0, board % 3 == 2 ? 1 : 2);
            }
            c.same("none of " + boards, x.meanDanger(), 0.0);
            x.washOut(1);
            c.same("as the office takes it", x.meanDanger(), 0.0);
            Offices.takeAsGone(x, 1);
            int sum = (boards + 2) / 3 * 31 + (boards + 1) / 3 * 1000;
            c.same("of " + boards, x.meanDanger(), (double) sum / (double) boards);
        }
    }

    @Edge({
        "Promise 33: Checks whether all ways between forks, as they are and as the office takes them, have the "
            + "minutes that are found",
        "Promise 33: and each task that is over was done by one ranger.",
    })
    static void soundAtTheEdges(Checks c) {
        c.yes("a new one", new WayMarker().isSound());
        c.yes("forks without trails", Offices.withForks(16).isSound());
        c.yes("all trails between two forks", Offices.withTrails(24).isSound());
        c.yes("amid its work", Offices.busy().isSound());
        c.yes("without room", Offices.full(0).isSound());
        WayMarker star = Offices.withForks(16);
        for (int fork = 1; fork < 16; fork++) {
            star.addTrail(fork, 0, fork, 300);
        }
        c.yes("all ways over the first fork", star.isSound());
        WayMarker x = Offices.withForks(16);
        for (int fork = 14; fork >= 0; fork--) {
            x.addTrail(fork, fork + 1, 300, 1);
            c.yes("with trails from " + fork, x.isSound());
        }
        for (int trail = 0; trail < 15; trail++) {
            x.washOut(14 - trail);
            Offices.takeAsGone(x, trail);
            c.yes("with trails gone up to " + trail, x.isSound());
        }
    }

    @Edge({
        "Promise 33: Checks whether all ways between forks, as they are and as the office takes them, have the "
            + "minutes that are found by allowing one fork more and more on the way,",
        "Promise 33: Returns whether this holds.",
    })
    static void unsoundWithOtherMinutes(Checks c) {
        for (String view : new String[] {"truth", "taken"}) {
            WayMarker x = Offices.busy();
            int[] least = (int[]) Inside.of(x, "net", view, "least");
            for (int from = 0; from < 7; from++) {
                for (int to = 0; to < 7; to++) {
                    int way = from * 16 + to;
                    least[way]++;
                    c.no("a minute more from " + from + " to " + to + " by the " + view, x.isSound());
                    least[way] -= 2;
                    c.no("a minute less from " + from + " to " + to + " by the " + view, x.isSound());
                    least[way]++;
                    c.yes("as it was", x.isSound());
                }
            }
        }
    }

    @Edge("Promise 33: and each task that is over was done by one ranger.")
    static void unsoundWithoutDoer(Checks c) {
        WayMarker x = Offices.busy();
        int[] doer = (int[]) Inside.of(x, "tasks", "doer");
        for (int task = 0; task < 4; task++) {
            c.same("it is over", x.doneBy(task), 0);
            doer[task] = 2;
            c.no("done by the ranger 2, who is not there", x.isSound());
            doer[task] = -2;
            c.no("done by none", x.isSound());
            doer[task] = 1;
            c.yes("done by the ranger 1", x.isSound());
        }
    }
}
