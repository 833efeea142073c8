/** Promises 28 to 33: maps, shares, means, and soundness. */
public final class MapsTest {
    private static final Checks CHECKS = new Checks();

    public static void main(String[] args) {
        print();
        shows();
        showsRefuses();
        age();
        knownShare();
        meanDanger();
        isSound();
        CHECKS.end();
    }

    private static void print() {
        WayMarker x = Offices.withTrails(1);
        for (int map = 0; map < 10; map++) {
            CHECKS.same("print", x.print(), map);
        }
        CHECKS.refuses("map 11", IllegalStateException.class, () -> x.print());
        CHECKS.same("the last one", x.age(9), 0);
        CHECKS.refuses("map 10", IndexOutOfBoundsException.class, () -> x.age(10));
        WayMarker y = new WayMarker();
        CHECKS.same("a map of no trails", y.print(), 0);
    }

    private static void shows() {
        WayMarker x = Offices.withTrails(3);
        Offices.takeAsGone(x, 1);
        x.washOut(2);
        CHECKS.same("print", x.print(), 0);
        CHECKS.yes("passable", x.shows(0, 0));
        CHECKS.no("taken as gone", x.shows(0, 1));
        CHECKS.yes("gone without the office knowing", x.shows(0, 2));
        Offices.takeAsGone(x, 0);
        x.report(2, 1, false);
        x.report(3, 1, false);
        x.addTrail(0, 1, 10, 10);
        CHECKS.same("print again", x.print(), 1);
        CHECKS.yes("as it was", x.shows(0, 0));
        CHECKS.no("as it was", x.shows(0, 1));
        CHECKS.no("not there then", x.shows(0, 3));
        CHECKS.no("now", x.shows(1, 0));
        CHECKS.yes("now", x.shows(1, 1));
        CHECKS.yes("there now", x.shows(1, 3));
        for (int trail = 4; trail < 24; trail++) {
            x.addTrail(0, 1, 10, 10);
        }
        CHECKS.same("print all", x.print(), 2);
        CHECKS.yes("the last one", x.shows(2, 23));
        CHECKS.no("not on the map before", x.shows(1, 23));
        Offices.takeAsGone(x, 23);
        CHECKS.same("print once more", x.print(), 3);
        CHECKS.no("the last one is gone", x.shows(3, 23));
        CHECKS.no("the first one is gone still", x.shows(3, 0));
        CHECKS.yes("the last one on the map before", x.shows(2, 23));
    }

    private static void showsRefuses() {
        WayMarker x = Offices.withTrails(1);
        x.print();
        for (int wrong : new int[] {-1, 1, 10, 24, Integer.MIN_VALUE, Integer.MAX_VALUE}) {
            CHECKS.refuses("map " + wrong, IndexOutOfBoundsException.class, () -> x.shows(wrong, 0));
            CHECKS.refuses("trail " + wrong, IndexOutOfBoundsException.class, () -> x.shows(0, wrong));
            CHECKS.refuses("age " + wrong, IndexOutOfBoundsException.class, () -> x.age(wrong));
        }
        CHECKS.yes("the one there is", x.shows(0, 0));
    }

    private static void age() {
        WayMarker x = Offices.withTrails(1);
        x.print();
        CHECKS.same("today", x.age(0), 0);
        x.day();
        CHECKS.same("a day ago", x.age(0), 1);
        x.day();
        x.print();
        x.day();
        CHECKS.same("three days ago", x.age(0), 3);
        CHECKS.same("a day ago", x.age(1), 1);
    }

    private static void knownShare() {
        CHECKS.refuses("no trails", ArithmeticException.class, () -> Offices.withTrails(0).knownShare());
        CHECKS.same("the only one", Offices.withTrails(1).knownShare(), 1f);
        WayMarker x = Offices.withTrails(3);
        CHECKS.same("all", x.knownShare(), 1f);
        x.washOut(0);
        CHECKS.same("two of three", x.knownShare(), 2f / 3f);
        Offices.takeAsGone(x, 1);
        CHECKS.same("one of three", x.knownShare(), 1f / 3f);
        Offices.takeAsGone(x, 2);
        CHECKS.same("none of three", x.knownShare(), 0f);
        Offices.takeAsGone(x, 0);
        CHECKS.same("one that is gone is known", x.knownShare(), 1f / 3f);
    }

    private static void meanDanger() {
        CHECKS.refuses("no boards", ArithmeticException.class, () -> Offices.withTrails(3).meanDanger());
        WayMarker x = Offices.withTrails(1);
        x.cut(0, 1);
        CHECKS.same("no danger", x.meanDanger(), 0.0);
        x.washOut(0);
        CHECKS.same("no danger that the office knows", x.meanDanger(), 0.0);
        x.addTrail(0, 1, 20, 20);
        Offices.takeAsGone(x, 0);
        CHECKS.same("a gone trail", x.meanDanger(), 1000.0);
        x.cut(0, 1);
        x.cut(0, 1);
        CHECKS.same("a third of it", x.meanDanger(), 1000.0 / 3.0);
        x.addRanger(0, 0);
        x.plan();
        x.day();
        CHECKS.yes("covered", x.isCovered(0));
        CHECKS.same("covered ones count", x.meanDanger(), 1000.0 / 3.0);
    }

    private static void isSound() {
        CHECKS.yes("a new one", new WayMarker().isSound());
        WayMarker x = Offices.withTrails(2);
        x.addFork(false);
        CHECKS.yes("with a fork without a way", x.isSound());
        x.addTrail(2, 0, 300, 1);
        x.addTrail(1, 2, 1, 300);
        CHECKS.yes("with ways", x.isSound());
        x.washOut(0);
        x.washOut(3);
        CHECKS.yes("as it is", x.isSound());
        Offices.takeAsGone(x, 1);
        CHECKS.yes("as taken", x.isSound());
        x.addTask('m', 1, 0);
        x.addRanger(1, 2);
        x.addRanger(0, 2);
        x.addTask('m', 1, 0);
        CHECKS.yes("with open tasks", x.isSound());
        x.day();
        x.day();
        CHECKS.yes("with tasks that are over", x.isSound());
        Offices.takeAsGone(x, 0);
        Offices.takeAsGone(x, 1);
        Offices.takeAsGone(x, 2);
        Offices.takeAsGone(x, 3);
        CHECKS.yes("without a way", x.isSound());
    }
}
