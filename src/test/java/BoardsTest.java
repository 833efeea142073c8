import java.util.NoSuchElementException;

/** Promises 8 to 14: wood, boards and their danger. */
public final class BoardsTest {
    private static final Checks CHECKS = new Checks();

    public static void main(String[] args) {
        addWood();
        cut();
        cutRoundsUp();
        cutNeedsWayAndWood();
        cutNeedsRoom();
        boardsThatAreNotThere();
        isCovered();
        dangerOfDetours();
        dangerOfGoneTrails();
        dangerByBothViews();
        dangerWithinItsMost();
        unsafe();
        CHECKS.end();
    }

    private static void addWood() {
        WayMarker x = new WayMarker();
        CHECKS.same("wood 1", x.addWood(1), 11);
        CHECKS.same("wood 99", x.addWood(99), 110);
        for (int wood : new int[] {0, 100, -1, Integer.MIN_VALUE, Integer.MAX_VALUE}) {
            CHECKS.refuses("wood " + wood, IllegalArgumentException.class, () -> x.addWood(wood));
        }
        CHECKS.same("what was refused adds none", x.addWood(5), 115);
    }

    /** Two places with a trail, and a third fork that is no place. */
    private static WayMarker small(int forth, int back) {
        WayMarker x = new WayMarker();
        x.addFork(true);
        x.addFork(true);
        x.addFork(false);
        x.addTrail(0, 1, forth, back);
        return x;
    }

    private static void cut() {
        WayMarker x = small(30, 41);
        x.addTrail(1, 2, 20, 20);
        CHECKS.same("board 0", x.cut(0, 1), 0);
        CHECKS.same("board 1", x.cut(1, 0), 1);
        CHECKS.same("board 2", x.cut(2, 0), 2);
        CHECKS.same("the same board again", x.cut(2, 0), 3);
        CHECKS.same("trail 0", x.trailOf(0), 0);
        CHECKS.same("told 0", x.told(0), 30);
        CHECKS.same("told 1", x.told(1), 45);
        CHECKS.same("trail 2", x.trailOf(2), 1);
        CHECKS.same("told 2", x.told(2), 65);
        CHECKS.no("not covered", x.isCovered(2));
        CHECKS.same("each takes wood", x.addWood(1), 7);
        CHECKS.refuses("no place", IllegalArgumentException.class, () -> x.cut(0, 2));
        CHECKS.refuses("the same fork", IllegalArgumentException.class, () -> x.cut(0, 0));
        int[][] wrong = {{-1, 0}, {0, -1}, {3, 0}, {0, 3}, {3, 3}, {Integer.MAX_VALUE, 0}, {0, Integer.MIN_VALUE}};
        for (int[] forks : wrong) {
            CHECKS.refuses("cut " + forks[0] + ", " + forks[1], IndexOutOfBoundsException.class,
                () -> x.cut(forks[0], forks[1]));
        }
        CHECKS.same("what was refused takes no wood", x.addWood(1), 8);
        CHECKS.same("what was refused is no board", x.cut(0, 1), 4);
        x.washOut(0);
        CHECKS.same("cut as the office takes it", x.cut(0, 1), 5);
        CHECKS.same("told as the office takes it", x.told(5), 30);
        Offices.takeAsGone(x, 0);
        x.addTrail(0, 2, 50, 50);
        CHECKS.same("cut as the office takes it now", x.cut(0, 1), 6);
        CHECKS.same("trail as the office takes it now", x.trailOf(6), 2);
        CHECKS.same("told as the office takes it now", x.told(6), 70);
        CHECKS.same("an old board tells what it told", x.trailOf(0), 0);
    }

    private static void cutRoundsUp() {
        for (int minutes = 1; minutes <= 300; minutes++) {
            WayMarker x = small(minutes, 1);
            x.cut(0, 1);
            int due = minutes;
            while (due % 5 != 0) {
                due++;
            }
            CHECKS.same("told of " + minutes, x.told(0), due);
        }
    }

    private static void cutNeedsWayAndWood() {
        WayMarker x = small(300, 299);
        x.addTrail(1, 2, 1, 1);
        CHECKS.same("300 minutes", x.cut(0, 1), 0);
        CHECKS.same("300 minutes over a fork", x.cut(2, 0), 1);
        WayMarker y = small(300, 300);
        y.addTrail(1, 2, 1, 1);
        CHECKS.refuses("301 minutes", NoSuchElementException.class, () -> y.cut(2, 0));
        y.washOut(0);
        CHECKS.same("the office does not know", y.cut(1, 0), 0);
        Offices.takeAsGone(y, 0);
        CHECKS.refuses("no way", NoSuchElementException.class, () -> y.cut(1, 0));

        WayMarker z = small(5, 5);
        for (int board = 0; board < 10; board++) {
            z.cut(0, 1);
        }
        CHECKS.refuses("no wood", UnsupportedOperationException.class, () -> z.cut(0, 1));
        CHECKS.refuses("fork ahead of wood", IndexOutOfBoundsException.class, () -> z.cut(0, 9));
        CHECKS.refuses("place ahead of wood", IllegalArgumentException.class, () -> z.cut(0, 2));
        CHECKS.refuses("way ahead of wood", NoSuchElementException.class, () -> z.cut(2, 1));
        CHECKS.refuses("place ahead of way", IllegalArgumentException.class, () -> z.cut(2, 2));
        CHECKS.same("wood is 1", z.addWood(1), 1);
        CHECKS.same("a board of it", z.cut(0, 1), 10);
        CHECKS.refuses("no wood again", UnsupportedOperationException.class, () -> z.cut(0, 1));
    }

    private static void cutNeedsRoom() {
        WayMarker x = small(5, 5);
        x.addWood(20);
        for (int board = 0; board < 30; board++) {
            CHECKS.same("cut", x.cut(board % 2, 1 - board % 2), board);
        }
        CHECKS.refuses("wood ahead of room", UnsupportedOperationException.class, () -> x.cut(0, 1));
        x.addWood(1);
        CHECKS.refuses("no room", IllegalStateException.class, () -> x.cut(0, 1));
        CHECKS.refuses("way ahead of room", NoSuchElementException.class, () -> x.cut(2, 1));
        CHECKS.refuses("fork ahead of room", IndexOutOfBoundsException.class, () -> x.cut(-1, 1));
        CHECKS.same("what was refused takes no wood", x.addWood(1), 2);
        CHECKS.same("the last board", x.told(29), 5);
        CHECKS.refuses("board 30", IndexOutOfBoundsException.class, () -> x.told(30));
    }

    private static void boardsThatAreNotThere() {
        WayMarker x = small(5, 5);
        x.cut(0, 1);
        for (int board : new int[] {-1, 1, 30, Integer.MIN_VALUE, Integer.MAX_VALUE}) {
            CHECKS.refuses("trailOf " + board, IndexOutOfBoundsException.class, () -> x.trailOf(board));
            CHECKS.refuses("told " + board, IndexOutOfBoundsException.class, () -> x.told(board));
            CHECKS.refuses("isCovered " + board, IndexOutOfBoundsException.class, () -> x.isCovered(board));
            CHECKS.refuses("danger " + board, IndexOutOfBoundsException.class, () -> x.danger(board, true));
            CHECKS.refuses("danger, as taken, " + board, IndexOutOfBoundsException.class, () -> x.danger(board, false));
        }
    }

    private static void isCovered() {
        WayMarker x = small(5, 5);
        x.cut(0, 1);
        x.cut(1, 0);
        x.addRanger(0, 0);
        x.addTrail(0, 1, 100, 1);
        Offices.takeAsGone(x, 0);
        x.plan();
        CHECKS.no("planned is not covered", x.isCovered(0));
        x.day();
        CHECKS.yes("a board that lies is covered", x.isCovered(0));
        CHECKS.yes("the other one as well", x.isCovered(1));
        CHECKS.same("a covered one lies as well", x.danger(0, false), 1000);
    }

    private static void dangerOfDetours() {
        for (int more = 28; more <= 31; more++) {
            WayMarker x = Offices.withForks(3);
            x.addTrail(0, 1, 11, 11);
            x.addTrail(1, 2, 7, 100);
            x.addTrail(1, 2, 9 + more, 100);
            x.cut(0, 2);
            CHECKS.same("it tells", x.told(0), 20);
            x.washOut(1);
            CHECKS.same("more by " + more, x.danger(0, true), more < 30 ? 0 : more);
            CHECKS.same("more by " + more + ", as taken", x.danger(0, false), 0);
            Offices.takeAsGone(x, 1);
            CHECKS.same("more by " + more + ", as taken now", x.danger(0, false), more < 30 ? 0 : more);
        }
        WayMarker y = small(50, 50);
        y.cut(0, 1);
        y.addTrail(0, 1, 1, 1);
        CHECKS.same("a shorter way is no lie", y.danger(0, true), 0);
    }

    private static void dangerOfGoneTrails() {
        WayMarker x = Offices.withForks(3);
        x.addTrail(0, 1, 10, 10);
        x.addTrail(1, 2, 10, 10);
        x.addTrail(0, 2, 30, 30);
        x.cut(0, 2);
        x.cut(2, 0);
        x.washOut(0);
        CHECKS.same("its trail is gone", x.danger(0, true), 1000);
        CHECKS.same("the way from the other end goes back", x.danger(1, true), 30);
        x.addTrail(1, 0, 39, 39);
        CHECKS.same("another trail does not help the board", x.danger(0, true), 1000);
        CHECKS.same("another trail from the other end does", x.danger(1, true), 0);
        WayMarker y = Offices.withForks(3);
        y.addTrail(0, 1, 10, 10);
        y.addTrail(1, 2, 10, 10);
        y.cut(0, 2);
        y.washOut(1);
        CHECKS.same("no way from the other end", y.danger(0, true), 1000);
        CHECKS.same("the office does not know", y.danger(0, false), 0);
    }

    private static void dangerByBothViews() {
        WayMarker x = small(10, 10);
        x.addTrail(0, 1, 90, 90);
        x.cut(0, 1);
        Offices.takeAsGone(x, 0);
        CHECKS.same("as taken", x.danger(0, false), 1000);
        CHECKS.same("as it is", x.danger(0, true), 0);
    }

    private static void dangerWithinItsMost() {
        for (int last = 98; last <= 101; last++) {
            WayMarker x = new WayMarker();
            for (int fork = 0; fork < 6; fork++) {
                x.addFork(true);
            }
            x.addTrail(0, 1, 100, 1);
            x.addTrail(1, 5, 200, 1);
            x.addTrail(1, 2, 300, 1);
            x.addTrail(2, 3, 300, 1);
            x.addTrail(3, 4, 300, 1);
            x.addTrail(4, 5, 199 + last, 1);
            x.cut(0, 5);
            x.washOut(1);
            int more = 100 + 900 + 199 + last - 300;
            CHECKS.same("more by " + more, x.danger(0, true), Math.min(more, 999));
        }
    }

    private static void unsafe() {
        WayMarker x = small(10, 10);
        x.addTrail(1, 2, 10, 10);
        x.cut(0, 1);
        x.cut(1, 0);
        x.cut(2, 0);
        x.addTrail(1, 0, 200, 200);
        CHECKS.same("none", x.unsafe(true), 0);
        x.washOut(0);
        CHECKS.same("danger of the third", x.danger(2, true), 190);
        CHECKS.same("as it is", x.unsafe(true), 2);
        CHECKS.same("as taken", x.unsafe(false), 0);
        Offices.takeAsGone(x, 0);
        CHECKS.same("as taken now", x.unsafe(false), 2);
        x.washOut(2);
        CHECKS.same("as it is without any way", x.unsafe(true), 3);
        x.plan();
        x.addRanger(0, 0);
        CHECKS.same("the ranger covers one, and finds no way to the others", x.day(), 1);
        CHECKS.yes("covered", x.isCovered(0));
        CHECKS.same("covered ones are safe", x.unsafe(true), 2);
        CHECKS.same("covered ones are safe, as taken", x.unsafe(false), 2);
    }
}
