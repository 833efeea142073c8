/** Promises 15 to 17: reports, and the trust in who made them. */
public final class ReportsTest {
    private static final Checks CHECKS = new Checks();

    public static void main(String[] args) {
        reportOfGone();
        reportOfPassable();
        reportTakesThePlaceOfTheOldOne();
        reportsOfTrailsStandAlone();
        reportNeedsWalkerAndTrail();
        trustChangesBySight();
        trustWithinItsBounds();
        trustCountsAsItIs();
        reportWithMoreTrust();
        reports();
        reportsOfTheLastTrails();
        CHECKS.end();
    }

    /** Two forks with so many trails of 10 minutes, and a ranger with all tools at the first one. */
    private static WayMarker withTrails(int trails) {
        WayMarker x = Offices.withTrails(trails);
        x.addRanger(0, 3);
        return x;
    }

    /** Has a trail seen, by mending it: it must be taken as gone, and is passable behind it. */
    private static void mend(WayMarker x, int trail) {
        x.addTask('m', trail, 0);
        CHECKS.same("a mended trail", x.day(), 1);
    }

    private static void reportOfGone() {
        WayMarker x = withTrails(1);
        CHECKS.no("50 of trust", x.report(9, 0, true));
        CHECKS.yes("100 of trust", x.report(0, 0, true));
        CHECKS.yes("as taken", x.isGone(0, false));
        CHECKS.no("as it is", x.isGone(0, true));
        WayMarker y = withTrails(1);
        y.report(0, 0, false);
        y.report(1, 0, false);
        y.report(2, 0, true);
        CHECKS.no("as much trust is not more", y.report(3, 0, true));
        CHECKS.yes("more trust", y.report(4, 0, true));
    }

    private static void reportOfPassable() {
        WayMarker x = withTrails(1);
        x.report(0, 0, true);
        x.report(1, 0, true);
        CHECKS.yes("50 against 100", x.report(2, 0, false));
        CHECKS.no("as much trust is not less", x.report(3, 0, false));
        CHECKS.no("as taken", x.isGone(0, false));
        WayMarker y = withTrails(1);
        y.report(0, 0, true);
        y.report(1, 0, true);
        CHECKS.yes("as it was taken: 50 against 50", y.report(1, 0, false));
        CHECKS.no("100 against none", y.report(0, 0, false));
    }

    private static void reportTakesThePlaceOfTheOldOne() {
        WayMarker x = withTrails(1);
        CHECKS.no("one says so", x.report(5, 0, true));
        CHECKS.no("the same one again", x.report(5, 0, true));
        CHECKS.same("one report", x.reports(0), 1);
        CHECKS.yes("another one", x.report(6, 0, true));
        CHECKS.yes("the first one takes it back", x.report(5, 0, false));
        CHECKS.same("two reports", x.reports(0), 2);
        CHECKS.no("the second one takes it back", x.report(6, 0, false));
        CHECKS.same("two reports still", x.reports(0), 2);
    }

    private static void reportsOfTrailsStandAlone() {
        WayMarker x = withTrails(3);
        x.report(0, 0, true);
        CHECKS.no("of another trail", x.report(1, 1, true));
        CHECKS.yes("of the same trail", x.report(2, 1, true));
        CHECKS.no("the first one", x.isGone(0, false));
        CHECKS.no("the third one", x.isGone(2, false));
        CHECKS.same("of the first one", x.reports(0), 1);
        CHECKS.same("of the second one", x.reports(1), 2);
        CHECKS.same("of the third one", x.reports(2), 0);
    }

    private static void reportNeedsWalkerAndTrail() {
        WayMarker x = withTrails(2);
        for (int walker : new int[] {-1, 10, Integer.MIN_VALUE, Integer.MAX_VALUE}) {
            CHECKS.refuses("report of walker " + walker, IllegalArgumentException.class,
                () -> x.report(walker, 0, true));
            CHECKS.refuses("walker ahead of trail", IllegalArgumentException.class, () -> x.report(walker, 2, true));
            CHECKS.refuses("trust in " + walker, IllegalArgumentException.class, () -> x.trust(walker));
        }
        for (int trail : new int[] {-1, 2, 24, Integer.MIN_VALUE, Integer.MAX_VALUE}) {
            CHECKS.refuses("report of trail " + trail, IndexOutOfBoundsException.class,
                () -> x.report(0, trail, false));
            CHECKS.refuses("reports " + trail, IndexOutOfBoundsException.class, () -> x.reports(trail));
        }
        CHECKS.same("what was refused is no report", x.reports(0), 0);
        CHECKS.same("nor of the other trail", x.reports(1), 0);
    }

    private static void trustChangesBySight() {
        WayMarker x = withTrails(1);
        x.report(0, 0, true);
        x.report(1, 0, true);
        x.report(2, 0, false);
        x.washOut(0);
        mend(x, 0);
        CHECKS.same("who was right", x.trust(0), 60);
        CHECKS.same("who was right, too", x.trust(1), 60);
        CHECKS.same("who was wrong", x.trust(2), 30);
        CHECKS.same("who said nothing", x.trust(3), 50);
        CHECKS.same("the reports are gone", x.reports(0), 0);
        x.report(0, 0, true);
        CHECKS.yes("taken as gone", x.report(1, 0, true));
        x.report(4, 0, false);
        mend(x, 0);
        CHECKS.same("who was wrong this time", x.trust(0), 40);
        CHECKS.same("who was right this time", x.trust(4), 60);
    }

    private static void trustWithinItsBounds() {
        WayMarker x = withTrails(1);
        int wrong = 50;
        int right = 50;
        for (int time = 0; time < 8; time++) {
            x.report(0, 0, false);
            for (int walker = 1; walker < 10; walker++) {
                x.report(walker, 0, true);
            }
            x.washOut(0);
            mend(x, 0);
            wrong = Math.max(0, wrong - 20);
            right = Math.min(100, right + 10);
            CHECKS.same("who is wrong each time", x.trust(0), wrong);
            CHECKS.same("who is right each time", x.trust(9), right);
        }
        CHECKS.same("no trust is left", x.trust(0), 0);
        CHECKS.same("no more trust", x.trust(9), 100);
        x.report(1, 0, true);
        x.report(2, 0, true);
        mend(x, 0);
        CHECKS.same("20 less of 100", x.trust(1), 80);
    }

    private static void trustCountsAsItIs() {
        WayMarker x = withTrails(2);
        x.report(0, 0, true);
        x.report(1, 0, true);
        x.report(2, 1, true);
        mend(x, 0);
        CHECKS.same("who was wrong", x.trust(0), 30);
        CHECKS.no("30 and 50", x.report(0, 1, true));
        CHECKS.yes("30 and 50 and 30", x.report(1, 1, true));
        WayMarker y = withTrails(2);
        y.report(0, 0, true);
        y.report(1, 0, true);
        y.report(0, 1, true);
        mend(y, 0);
        CHECKS.no("30 now, of a report of before, and 50", y.report(2, 1, true));
        CHECKS.same("two reports", y.reports(1), 2);
    }

    private static void reportWithMoreTrust() {
        WayMarker x = withTrails(1);
        for (int time = 0; time < 5; time++) {
            x.washOut(0);
            x.report(0, 0, true);
            x.report(1, 0, true);
            mend(x, 0);
        }
        CHECKS.same("trust in 0", x.trust(0), 100);
        CHECKS.yes("one is enough", x.report(0, 0, true));
        CHECKS.yes("50 against 100", x.report(2, 0, false));
        CHECKS.no("100 against 100", x.report(3, 0, false));
    }

    private static void reports() {
        WayMarker x = withTrails(1);
        CHECKS.same("none", x.reports(0), 0);
        for (int walker = 0; walker < 10; walker++) {
            x.report(walker, 0, walker % 2 == 0);
            CHECKS.same("reports", x.reports(0), walker + 1);
        }
        x.cut(0, 1);
        CHECKS.no("taken as passable", x.isGone(0, false));
        x.report(9, 0, true);
        CHECKS.yes("taken as gone", x.isGone(0, false));
        x.report(9, 0, false);
        x.addTask('r', 0, 5);
        CHECKS.same("done where the ranger is", x.day(), 1);
        CHECKS.same("not seen", x.reports(0), 10);
        x.addTrail(1, 0, 1, 1);
        x.cut(1, 0);
        x.addTask('r', 1, 5);
        CHECKS.same("done at the other end", x.day(), 1);
        CHECKS.same("the other trail was seen", x.reports(0), 10);
    }

    private static void reportsOfTheLastTrails() {
        WayMarker x = withTrails(24);
        x.report(0, 23, true);
        CHECKS.same("of the last one", x.reports(23), 1);
        CHECKS.same("of the one before", x.reports(22), 0);
        x.report(9, 23, true);
        x.report(9, 22, true);
        CHECKS.same("of the last one, by the last walker", x.reports(23), 2);
        CHECKS.same("of the one before, by the last walker", x.reports(22), 1);
        CHECKS.yes("the last one is taken as gone", x.isGone(23, false));
        CHECKS.no("the one before is not", x.isGone(22, false));
    }
}
