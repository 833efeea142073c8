/** Offices that several tests begin with. */
final class Offices {
    private Offices() {
    }

    /** Forks without trails, each of them a place. */
    static WayMarker withForks(int forks) {
        WayMarker x = new WayMarker();
        for (int fork = 0; fork < forks; fork++) {
            x.addFork(true);
        }
        return x;
    }

    /** Two places with so many trails of 10 minutes between them. */
    static WayMarker withTrails(int trails) {
        WayMarker x = withForks(2);
        for (int trail = 0; trail < trails; trail++) {
            x.addTrail(0, 1, 10, 10);
        }
        return x;
    }

    /** Has the office take a trail as gone, by the last two walkers, who must have trust enough. */
    static void takeAsGone(WayMarker x, int trail) {
        x.report(8, trail, true);
        x.report(9, trail, true);
    }

    /** Has the office take a trail as passable again, behind takeAsGone. */
    static void takeAsPassable(WayMarker x, int trail) {
        x.report(8, trail, false);
        x.report(9, trail, false);
    }

    /** An office amid its work: some of everything, and room for more of everything. */
    static WayMarker busy() {
        WayMarker x = new WayMarker();
        for (int fork = 0; fork < 7; fork++) {
            x.addFork(fork != 2 && fork != 5);
        }
        x.addTrail(0, 1, 10, 20);
        x.addTrail(1, 2, 30, 30);
        x.addTrail(0, 2, 50, 45);
        x.addTrail(2, 3, 300, 299);
        x.addTrail(3, 4, 1, 1);
        x.addTrail(0, 1, 60, 60);
        x.addTrail(4, 5, 100, 5);
        x.cut(0, 1);
        x.cut(1, 0);
        x.cut(2, 1);
        x.cut(3, 4);
        x.cut(5, 4);
        x.addRanger(0, 3);
        x.addRanger(1, 0);
        x.print();
        takeAsGone(x, 0);
        x.washOut(3);
        x.plan();
        x.day();
        x.addTask('m', 0, 7);
        x.addTask('r', 2, 9);
        x.day();
        x.report(2, 5, true);
        x.report(3, 5, false);
        x.report(4, 1, true);
        x.print();
        x.addTask('m', 6, 0);
        x.addTask('r', 1, 3);
        x.plan();
        return x;
    }

    /** An office without room for anything, on its last day; the fork 15 is no place, and there is no way to it. */
    static WayMarker full(int wood) {
        WayMarker x = new WayMarker();
        for (int fork = 0; fork < 16; fork++) {
            x.addFork(fork < 15);
        }
        for (int trail = 0; trail < 24; trail++) {
            x.addTrail(trail % 14, (trail + 1 + trail / 14) % 15, 10 + trail, 20 + trail);
        }
        x.addWood(20 + wood);
        for (int board = 0; board < 30; board++) {
            x.cut(board % 14, board % 14 + 1);
        }
        for (int ranger = 0; ranger < 4; ranger++) {
            x.addRanger(ranger * 4, ranger);
        }
        takeAsGone(x, 3);
        x.washOut(5);
        x.addTask('m', 3, 5);
        for (int task = x.plan() + 1; task < 40; task++) {
            x.addTask('m', 2, 1);
        }
        for (int day = 0; day < 50; day++) {
            if (day >= 41) {
                x.print();
            }
            x.day();
        }
        x.print();
        x.report(0, 7, true);
        x.report(1, 7, false);
        return x;
    }
}
