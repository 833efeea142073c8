/** The edges of reports and trust (promises 15 to 17). */
final class ReportEdges {
    private ReportEdges() {
    }

    /** So many trails, and a ranger who can mend at their first fork. */
    private static WayMarker withMender(int trails) {
        WayMarker x = Offices.withTrails(trails);
        x.addRanger(0, 2);
        return x;
    }

    /** Has the ranger see a trail that is taken as gone, by mending it. */
    private static void see(Checks c, WayMarker x, int trail) {
        x.addTask('m', trail, 0);
        c.same("one is mended", x.day(), 1);
    }

    /** An office with the trust 90, 100, 30, 10, 0 and 50 in the walkers 0 to 5, and no reports of the trail 1. */
    private static WayMarker withTrusts(Checks c) {
        WayMarker x = withMender(2);
        int[] reportsOfEach = {4, 5, 1, 2, 3};
        for (int time = 0; time < 5; time++) {
            for (int walker = 0; walker < reportsOfEach.length; walker++) {
                if (time < reportsOfEach[walker]) {
                    x.report(walker, 0, walker < 2);
                }
            }
            for (int walker = 6; walker < 10; walker++) {
                x.report(walker, 0, true);
            }
            x.washOut(0);
            see(c, x, 0);
        }
        int[] due = {90, 100, 30, 10, 0, 50};
        for (int walker = 0; walker < due.length; walker++) {
            c.same("trust in " + walker, x.trust(walker), due[walker]);
        }
        return x;
    }

    @Edge("Terms: There are the walkers 0 to 9, each with a trust from 0 to 100, 50 at first.")
    static void tenWalkers(Checks c) {
        WayMarker x = withMender(1);
        for (int walker = 0; walker < 10; walker++) {
            c.same("trust at first", x.trust(walker), 50);
            x.report(walker, 0, true);
            c.same("a report does not change it", x.trust(walker), 50);
        }
        c.same("ten reports", x.reports(0), 10);
        see(c, x, 0);
        for (int walker = 0; walker < 10; walker++) {
            c.same("trust of each", x.trust(walker), 30);
        }
    }

    @Edge("Terms: A walker reports of a trail that it is gone, or passable; a new report of the same walker of "
        + "the same trail takes the place of the old one.")
    static void newReport(Checks c) {
        WayMarker x = Offices.withTrails(2);
        c.no("once", x.report(0, 0, true));
        c.no("the same once more does not count twice", x.report(0, 0, true));
        c.no("of another trail", x.report(0, 1, true));
        c.same("one report", x.reports(0), 1);
        c.same("one report of the other trail", x.reports(1), 1);
        c.no("otherwise now", x.report(0, 0, false));
        c.same("one report still", x.reports(0), 1);
        c.no("it does not count for gone any more", x.report(1, 0, true));
        c.yes("of the other trail it does", x.report(1, 1, true));
    }

    @Edge("Terms: Behind a report, the office takes the trail as gone if the trust of those who say so is 100 "
        + "or more together,")
    static void gone100(Checks c) {
        WayMarker x = withTrusts(c);
        c.no("90", x.report(0, 1, true));
        c.no("90 and 0", x.report(4, 1, true));
        c.yes("90 and 0 and 10", x.report(3, 1, true));
        WayMarker y = withTrusts(c);
        c.yes("100 of one alone", y.report(1, 1, true));
        WayMarker z = withTrusts(c);
        c.no("30", z.report(2, 1, true));
        c.no("30 and 50", z.report(5, 1, true));
        c.no("30 and 50 and 10", z.report(3, 1, true));
        c.yes("more than 100", z.report(0, 1, true));
    }

    @Edge("Terms: and more than that of those who say otherwise;")
    static void goneMoreThanOtherwise(Checks c) {
        WayMarker x = withTrusts(c);
        c.no("100 for passable", x.report(1, 1, false));
        c.no("90 for gone", x.report(0, 1, true));
        c.no("100 for gone is not more", x.report(3, 1, true));
        c.no("nor with 0 of trust", x.report(4, 1, true));
        c.yes("130 for gone", x.report(2, 1, true));
        WayMarker y = withTrusts(c);
        y.report(0, 1, false);
        c.yes("100 for gone against 90", y.report(1, 1, true));
    }

    @Edge("Terms: as passable, if the trust of those who say this is 100 or more, and not less than that of the "
        + "others;")
    static void passable100(Checks c) {
        WayMarker x = withTrusts(c);
        c.yes("100 for gone", x.report(1, 1, true));
        c.yes("90 for passable", x.report(0, 1, false));
        c.yes("90 and 0 for passable", x.report(4, 1, false));
        c.no("100 for passable is not less", x.report(3, 1, false));
        WayMarker y = withTrusts(c);
        y.report(1, 1, true);
        y.report(3, 1, true);
        c.yes("90 against 110", y.report(0, 1, false));
        c.no("120 against 110", y.report(2, 1, false));
        WayMarker z = withTrusts(c);
        z.report(1, 1, true);
        z.report(3, 1, true);
        z.report(5, 1, false);
        z.report(2, 1, false);
        c.yes("80 against 110", z.isGone(1, false));
        c.yes("80 against 110, once more", z.report(4, 1, false));
        c.no("170 against 110", z.report(0, 1, false));
    }

    @Edge("Terms: otherwise as it took it.")
    static void otherwise(Checks c) {
        WayMarker x = withTrusts(c);
        c.yes("100 for gone", x.report(1, 1, true));
        c.yes("it stays gone by 90 for passable", x.report(0, 1, false));
        WayMarker y = withTrusts(c);
        c.no("it stays passable by 90 for gone", y.report(0, 1, true));
        c.no("and by 90 against 80", y.report(5, 1, false) || y.report(2, 1, false));
        WayMarker z = Offices.withTrails(1);
        z.report(0, 0, true);
        c.yes("100 for gone", z.report(1, 0, true));
        c.yes("it stays gone by 50 against 50", z.report(1, 0, false));
        c.no("100 for passable", z.report(2, 0, false));
        c.no("100 against 100 is passable", z.report(3, 0, true));
        WayMarker w = Offices.withTrails(1);
        c.no("50 for passable", w.report(0, 0, false));
        c.no("it stays passable by 50 against 50", w.report(1, 0, true));
    }

    @Edge("Terms: Trust counts as it is then.")
    static void trustAsItIsThen(Checks c) {
        WayMarker x = withMender(2);
        x.report(0, 1, true);
        Offices.takeAsGone(x, 0);
        x.report(0, 0, true);
        see(c, x, 0);
        c.same("less now", x.trust(0), 30);
        c.no("30 of the old report, and 50", x.report(1, 1, true));
        c.no("not without a report", x.isGone(1, false));
        c.yes("30 and 50 and 50", x.report(2, 1, true));
        WayMarker y = withMender(2);
        y.report(0, 1, true);
        y.report(2, 1, false);
        y.washOut(0);
        Offices.takeAsGone(y, 0);
        y.report(0, 0, true);
        see(c, y, 0);
        c.same("more now", y.trust(0), 60);
        c.no("not behind a change of trust alone", y.isGone(1, false));
        c.yes("60 of the old report, and 50", y.report(1, 1, true));
    }

    @Edge("Terms: each walker who reported it so has 10 more trust, each one who reported it otherwise 20 less, "
        + "within 0 and 100, and the reports of it are gone.")
    static void tenMoreTwentyLess(Checks c) {
        WayMarker x = withTrusts(c);
        x.report(0, 1, true);
        x.report(1, 1, true);
        for (int walker = 2; walker <= 5; walker++) {
            x.report(walker, 1, false);
        }
        x.washOut(1);
        c.yes("190 against 90", x.isGone(1, false));
        see(c, x, 1);
        int[] due = {100, 100, 10, 0, 0, 30};
        for (int walker = 0; walker < due.length; walker++) {
            c.same("trust in " + walker, x.trust(walker), due[walker]);
        }
        c.same("reports", x.reports(1), 0);
        x.report(1, 1, true);
        x.report(3, 1, false);
        see(c, x, 1);
        c.same("20 less of 100", x.trust(1), 80);
        c.same("10 more than 0", x.trust(3), 10);
        c.same("reports again", x.reports(1), 0);
    }

    @Edge({
        "Terms: When a ranger sees a trail, the office takes it as it is seen;",
        "Terms: and the reports of it are gone.",
    })
    static void asItIsSeen(Checks c) {
        WayMarker x = Offices.withForks(3);
        x.addTrail(0, 1, 10, 10);
        x.addTrail(1, 2, 10, 10);
        x.addTrail(0, 2, 100, 100);
        x.cut(2, 0);
        x.addTask('r', 0, 0);
        x.addRanger(0, 1);
        x.washOut(1);
        x.washOut(2);
        x.report(3, 0, true);
        x.report(4, 1, true);
        x.report(5, 1, false);
        x.report(6, 2, true);
        c.same("not done", x.day(), 0);
        c.no("the first trail is seen", x.isGone(0, false));
        c.yes("the second trail is seen from its end", x.isGone(1, false));
        c.yes("the third trail is seen ahead of walking", x.isGone(2, false));
        for (int trail = 0; trail < 3; trail++) {
            c.same("reports of trail " + trail, x.reports(trail), 0);
        }
        c.same("who was wrong of the first trail", x.trust(3), 30);
        c.same("who was right of the second trail", x.trust(4), 60);
        c.same("who was wrong of the second trail", x.trust(5), 30);
        c.same("who was right of the third trail", x.trust(6), 60);
        c.same("who said nothing", x.trust(7), 50);
        c.same("to the fork 1, back, and no further", x.worked(0), 20);
    }

    @Edge("Terms: Ahead of mending, a trail is seen; behind it, it is passable, and the office takes it so.")
    static void seenAheadOfMending(Checks c) {
        WayMarker x = withMender(1);
        x.washOut(0);
        Offices.takeAsGone(x, 0);
        x.report(0, 0, false);
        see(c, x, 0);
        c.same("gone was right", x.trust(9), 60);
        c.same("passable was wrong", x.trust(0), 30);
        c.no("passable", x.isGone(0, true));
        c.no("taken as passable", x.isGone(0, false));
        c.same("no reports", x.reports(0), 0);
        c.same("there is a way again", x.minutes(0, 1, true), 10);
        c.same("there is a way again, as taken", x.minutes(1, 0, false), 10);
    }

    @Edge({
        "Promise 15: Returns whether the office takes it as gone then.",
        "Promise 15: - `isGone`: whether the walker says that it is gone",
        "Promise 17: Returns how many reports of a trail there are.",
    })
    static void reportsOfATrail(Checks c) {
        WayMarker x = Offices.withTrails(24);
        for (int walker = 0; walker < 10; walker++) {
            c.same("walker " + walker, x.report(walker, 23, true) ? 1 : 0, walker == 0 ? 0 : 1);
            c.same("reports", x.reports(23), walker + 1);
            c.same("reports of the trail before", x.reports(22), 0);
        }
        for (int walker = 0; walker < 10; walker++) {
            c.same("back by walker " + walker, x.report(walker, 23, false) ? 1 : 0, walker < 4 ? 1 : 0);
            c.same("reports are ten still", x.reports(23), 10);
        }
        c.same("reports of the first trail", x.reports(0), 0);
    }
}
