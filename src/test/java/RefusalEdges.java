import java.util.List;
import java.util.NoSuchElementException;
import java.util.function.ObjIntConsumer;
import java.util.function.Supplier;

/** Each promise's wrong arguments, the first ones on either side, and two at once: refused, and nothing is changed. */
final class RefusalEdges {
    private static final Class<IndexOutOfBoundsException> NO_SUCH = IndexOutOfBoundsException.class;
    private static final Class<IllegalArgumentException> WRONG = IllegalArgumentException.class;
    private static final Class<IllegalStateException> NO_ROOM = IllegalStateException.class;
    private static final Class<NoSuchElementException> NO_WAY = NoSuchElementException.class;
    private static final Class<UnsupportedOperationException> NO_WOOD = UnsupportedOperationException.class;
    private static final Class<ArithmeticException> NONE = ArithmeticException.class;
    private static final Supplier<WayMarker> NEW = WayMarker::new;
    private static final Supplier<WayMarker> BUSY = Offices::busy;
    private static final Supplier<WayMarker> FULL = () -> Offices.full(5);
    private static final Supplier<WayMarker> FULL_WITHOUT_WOOD = () -> Offices.full(0);

    private RefusalEdges() {
    }

    /** Numbers beside those from 0 to below count. */
    private static int[] beside(int count) {
        return new int[] {-1, count, -count - 1, count + 1, count + 256, 65536, Integer.MIN_VALUE, Integer.MAX_VALUE};
    }

    /** Asked for a number that is not there, a new office, a busy one and a full one refuse, and change nothing. */
    private static void needsNumber(Checks c, String what, int inBusy, int inFull, ObjIntConsumer<WayMarker> call) {
        int[] counts = {0, inBusy, inFull};
        List<Supplier<WayMarker>> offices = List.of(NEW, BUSY, FULL);
        for (int at = 0; at < counts.length; at++) {
            Refusals refusals = new Refusals(c, offices.get(at));
            for (int number : beside(counts[at])) {
                refusals.due(NO_SUCH, what + " " + number, x -> call.accept(x, number));
            }
            refusals.changeNothing(what);
        }
    }

    @Edge("Terms: A method that throws an exception changes nothing.")
    static void allAtOnce(Checks c) {
        new Refusals(c, FULL)
            .due(NO_ROOM, "addFork", x -> x.addFork(true))
            .due(NO_ROOM, "addTrail", x -> x.addTrail(0, 1, 1, 1))
            .due(NO_SUCH, "washOut", x -> x.washOut(24))
            .due(NO_SUCH, "isGone", x -> x.isGone(-1, true))
            .due(NO_WAY, "minutes", x -> x.minutes(0, 15, true))
            .due(NO_WAY, "firstTrail", x -> x.firstTrail(0, 15))
            .due(WRONG, "addWood", x -> x.addWood(100))
            .due(NO_ROOM, "cut", x -> x.cut(0, 1))
            .due(NO_SUCH, "trailOf", x -> x.trailOf(30))
            .due(NO_SUCH, "told", x -> x.told(30))
            .due(NO_SUCH, "isCovered", x -> x.isCovered(-1))
            .due(NO_SUCH, "danger", x -> x.danger(30, false))
            .due(WRONG, "report", x -> x.report(10, 0, true))
            .due(NO_SUCH, "report of no trail", x -> x.report(9, 24, true))
            .due(WRONG, "trust", x -> x.trust(-1))
            .due(NO_SUCH, "reports", x -> x.reports(24))
            .due(NO_ROOM, "addTask", x -> x.addTask('m', 23, 999))
            .due(NO_SUCH, "kindOf", x -> x.kindOf(40))
            .due(NO_SUCH, "numberOf", x -> x.numberOf(40))
            .due(NO_WAY, "doneBy", x -> x.doneBy(39))
            .due(NO_ROOM, "addRanger", x -> x.addRanger(0, 3))
            .due(NO_SUCH, "forkOf", x -> x.forkOf(4))
            .due(NO_SUCH, "worked", x -> x.worked(-1))
            .due(NO_ROOM, "day", x -> x.day())
            .due(NO_ROOM, "print", x -> x.print())
            .due(NO_SUCH, "shows", x -> x.shows(9, 24))
            .due(NO_SUCH, "age", x -> x.age(10))
            .changeNothing("all of them");
    }

    @Edge("Promise 2: Throws `IllegalStateException` if there are 16 forks")
    static void addFork(Checks c) {
        new Refusals(c, FULL)
            .due(NO_ROOM, "a 17th fork, a place", x -> x.addFork(true))
            .due(NO_ROOM, "a 17th fork, no place", x -> x.addFork(false))
            .changeNothing("addFork");
    }

    @Edge("Promise 3: Throws `IndexOutOfBoundsException` if there is no such fork, for either")
    static void addTrailWithoutFork(Checks c) {
        new Refusals(c, NEW).due(NO_SUCH, "a trail without forks", x -> x.addTrail(0, 1, 5, 5))
            .due(NO_SUCH, "from the fork 0 to itself, which is not there", x -> x.addTrail(0, 0, 5, 5))
            .changeNothing("addTrail without forks");
        Refusals busy = new Refusals(c, BUSY);
        for (int fork : beside(7)) {
            busy.due(NO_SUCH, "from " + fork, x -> x.addTrail(fork, 0, 5, 5));
            busy.due(NO_SUCH, "to " + fork, x -> x.addTrail(0, fork, 5, 5));
        }
        busy.changeNothing("addTrail beside its forks");
    }

    @Edge({
        "Promise 3: Throws `IllegalArgumentException` if both are the same, or minutes are out of range",
        "Promise 3: - `forth`: the minutes from the first one to the second one, 1 to 300",
        "Promise 3: - `back`: the minutes back, 1 to 300",
    })
    static void addTrailWithWrongArguments(Checks c) {
        Refusals busy = new Refusals(c, BUSY);
        for (int fork = 0; fork < 7; fork++) {
            int f = fork;
            busy.due(WRONG, "from " + f + " to itself", x -> x.addTrail(f, f, 5, 5));
        }
        for (int minutes : new int[] {0, 301, -1, 302, 557, -300, Integer.MIN_VALUE, Integer.MAX_VALUE}) {
            busy.due(WRONG, "forth " + minutes, x -> x.addTrail(0, 1, minutes, 5));
            busy.due(WRONG, "back " + minutes, x -> x.addTrail(0, 1, 5, minutes));
            busy.due(WRONG, "both " + minutes, x -> x.addTrail(0, 1, minutes, minutes));
        }
        busy.changeNothing("addTrail");
        for (int minutes : new int[] {1, 300}) {
            WayMarker x = Offices.withForks(2);
            c.same("forth " + minutes, x.addTrail(0, 1, minutes, 7), 0);
            c.same("back " + minutes, x.addTrail(1, 0, 299, minutes), 1);
            c.same("minutes forth", x.minutes(0, 1, true), minutes);
            c.same("minutes back", x.minutes(1, 0, true), 7);
        }
    }

    @Edge("Promise 3: Throws `IllegalStateException` if there are 24 trails")
    static void addTrailWithoutRoom(Checks c) {
        new Refusals(c, FULL).due(NO_ROOM, "a 25th trail", x -> x.addTrail(0, 1, 1, 1))
            .due(NO_ROOM, "to a fork without a way", x -> x.addTrail(15, 0, 300, 300))
            .changeNothing("addTrail without room");
    }

    @Edge("Terms: If several exceptions apply, the exception that is listed first is thrown.")
    static void addTrailWithTwo(Checks c) {
        new Refusals(c, BUSY)
            .due(NO_SUCH, "the same one, which is not there", x -> x.addTrail(7, 7, 5, 5))
            .due(NO_SUCH, "no fork, and no minutes forth", x -> x.addTrail(-1, 0, 0, 5))
            .due(NO_SUCH, "no fork, and too many minutes back", x -> x.addTrail(0, 7, 5, 301))
            .changeNothing("addTrail with two");
        new Refusals(c, FULL)
            .due(NO_SUCH, "no fork, and no room", x -> x.addTrail(0, 16, 5, 5))
            .due(WRONG, "the same, and no room", x -> x.addTrail(1, 1, 5, 5))
            .due(WRONG, "no minutes forth, and no room", x -> x.addTrail(0, 1, 0, 5))
            .due(WRONG, "too many minutes back, and no room", x -> x.addTrail(0, 1, 5, 301))
            .due(NO_SUCH, "all three", x -> x.addTrail(16, 16, 0, 301))
            .changeNothing("addTrail without room, with two");
    }

    @Edge("Promise 4: Throws `IndexOutOfBoundsException` if there is no such trail")
    static void washOut(Checks c) {
        needsNumber(c, "washOut", 7, 24, WayMarker::washOut);
        c.yes("washOut of the first one", Offices.full(0).washOut(0));
        c.yes("washOut of the last one", Offices.full(0).washOut(23));
    }

    @Edge("Promise 5: Throws `IndexOutOfBoundsException` if there is no such trail")
    static void isGone(Checks c) {
        for (boolean isTrue : new boolean[] {true, false}) {
            needsNumber(c, "isGone", 7, 24, (x, trail) -> x.isGone(trail, isTrue));
            c.no("isGone of the first one", Offices.full(0).isGone(0, isTrue));
            c.no("isGone of the last one", Offices.full(0).isGone(23, isTrue));
        }
    }

    @Edge({
        "Promise 6: Throws `IndexOutOfBoundsException` if there is no such fork, for either",
        "Promise 6: Throws `NoSuchElementException` if there is no way",
        "Terms: If several exceptions apply, the exception that is listed first is thrown.",
    })
    static void minutes(Checks c) {
        for (boolean isTrue : new boolean[] {true, false}) {
            new Refusals(c, NEW).due(NO_SUCH, "minutes without forks", x -> x.minutes(0, 0, isTrue))
                .changeNothing("minutes without forks");
            Refusals full = new Refusals(c, FULL);
            for (int fork : beside(16)) {
                full.due(NO_SUCH, "from " + fork, x -> x.minutes(fork, 0, isTrue));
                full.due(NO_SUCH, "to " + fork, x -> x.minutes(0, fork, isTrue));
                full.due(NO_SUCH, "from it to itself", x -> x.minutes(fork, fork, isTrue));
                full.due(NO_SUCH, "no such fork, from one without a way", x -> x.minutes(15, fork, isTrue));
            }
            full.due(NO_WAY, "from a fork without a way", x -> x.minutes(15, 0, isTrue));
            full.due(NO_WAY, "to a fork without a way", x -> x.minutes(14, 15, isTrue));
            full.changeNothing("minutes");
            c.same("from the last fork to itself", Offices.full(0).minutes(15, 15, isTrue), 0);
        }
    }

    @Edge({
        "Promise 7: Throws `IndexOutOfBoundsException` if there is no such fork, for either",
        "Promise 7: Throws `NoSuchElementException` if there is no way, or both are the same",
        "Terms: If several exceptions apply, the exception that is listed first is thrown.",
    })
    static void firstTrail(Checks c) {
        new Refusals(c, NEW).due(NO_SUCH, "firstTrail without forks", x -> x.firstTrail(0, 0))
            .changeNothing("firstTrail without forks");
        Refusals full = new Refusals(c, FULL);
        for (int fork : beside(16)) {
            full.due(NO_SUCH, "from " + fork, x -> x.firstTrail(fork, 0));
            full.due(NO_SUCH, "to " + fork, x -> x.firstTrail(0, fork));
            full.due(NO_SUCH, "the same, which is not there", x -> x.firstTrail(fork, fork));
            full.due(NO_SUCH, "no such fork, from one without a way", x -> x.firstTrail(15, fork));
        }
        for (int fork = 0; fork < 16; fork++) {
            int f = fork;
            full.due(NO_WAY, "from " + f + " to itself", x -> x.firstTrail(f, f));
        }
        full.due(NO_WAY, "from a fork without a way", x -> x.firstTrail(15, 0));
        full.due(NO_WAY, "to a fork without a way", x -> x.firstTrail(0, 15));
        full.changeNothing("firstTrail");
    }

    @Edge({
        "Promise 8: Throws `IllegalArgumentException` if it is out of range",
        "Promise 8: - `wood`: how much, 1 to 99",
    })
    static void addWood(Checks c) {
        Refusals busy = new Refusals(c, BUSY);
        for (int wood : new int[] {0, 100, -1, 101, -99, 257, 355, Integer.MIN_VALUE, Integer.MAX_VALUE}) {
            busy.due(WRONG, "wood " + wood, x -> x.addWood(wood));
        }
        busy.changeNothing("addWood");
        c.same("the least wood", new WayMarker().addWood(1), 11);
        c.same("the most wood", new WayMarker().addWood(99), 109);
    }

    @Edge("Promise 9: Throws `IndexOutOfBoundsException` if there is no such fork, for either")
    static void cutWithoutFork(Checks c) {
        new Refusals(c, NEW).due(NO_SUCH, "cut without forks", x -> x.cut(0, 1)).changeNothing("cut without forks");
        Refusals busy = new Refusals(c, BUSY);
        for (int fork : beside(7)) {
            busy.due(NO_SUCH, "at " + fork, x -> x.cut(fork, 1));
            busy.due(NO_SUCH, "to " + fork, x -> x.cut(1, fork));
        }
        busy.changeNothing("cut beside the forks");
    }

    @Edge("Promise 9: Throws `IllegalArgumentException` if the second one is no place, or both are the same")
    static void cutWithWrongPlace(Checks c) {
        Refusals busy = new Refusals(c, BUSY);
        for (int fork = 0; fork < 7; fork++) {
            int f = fork;
            busy.due(WRONG, "at " + f + " to itself", x -> x.cut(f, f));
            if (fork != 2) {
                busy.due(WRONG, "no place", x -> x.cut(f, 2));
            }
        }
        busy.due(WRONG, "another one that is no place", x -> x.cut(0, 5));
        busy.changeNothing("cut with a wrong place");
        c.same("at a fork that is no place", Offices.busy().cut(2, 0), 5);
    }

    @Edge("Promise 9: Throws `NoSuchElementException` if there is no way, or it has more than 300 minutes")
    static void cutWithoutWay(Checks c) {
        new Refusals(c, BUSY)
            .due(NO_WAY, "to a fork without a way", x -> x.cut(0, 6))
            .due(NO_WAY, "from a fork without a way", x -> x.cut(6, 0))
            .due(NO_WAY, "330 minutes", x -> x.cut(1, 3))
            .due(NO_WAY, "301 minutes", x -> x.cut(2, 4))
            .changeNothing("cut without a way");
        c.same("300 minutes", Offices.busy().cut(2, 3), 5);
    }

    @Edge("Promise 9: Throws `UnsupportedOperationException` if there is no wood")
    static void cutWithoutWood(Checks c) {
        Supplier<WayMarker> withoutWood = () -> {
            WayMarker x = Offices.withTrails(1);
            for (int board = 0; board < 10; board++) {
                x.cut(0, 1);
            }
            return x;
        };
        new Refusals(c, withoutWood)
            .due(NO_WOOD, "no wood", x -> x.cut(0, 1))
            .due(NO_WOOD, "no wood still", x -> x.cut(1, 0))
            .changeNothing("cut without wood");
        WayMarker x = withoutWood.get();
        x.addWood(1);
        c.same("with 1 of wood", x.cut(0, 1), 10);
    }

    @Edge("Promise 9: Throws `IllegalStateException` if there are 30 boards")
    static void cutWithoutRoom(Checks c) {
        new Refusals(c, FULL)
            .due(NO_ROOM, "a 31st board", x -> x.cut(0, 1))
            .due(NO_ROOM, "a 31st board elsewhere", x -> x.cut(13, 12))
            .changeNothing("cut without room");
    }

    @Edge("Terms: If several exceptions apply, the exception that is listed first is thrown.")
    static void cutWithTwo(Checks c) {
        new Refusals(c, BUSY)
            .due(NO_SUCH, "no fork, and no place", x -> x.cut(-1, 2))
            .due(NO_SUCH, "no fork, twice the same", x -> x.cut(7, 7))
            .due(NO_SUCH, "no fork, and no way", x -> x.cut(7, 6))
            .due(NO_SUCH, "no way, and no fork", x -> x.cut(6, 7))
            .due(WRONG, "no place, and no way", x -> x.cut(6, 2))
            .due(WRONG, "no place, and more than 300 minutes", x -> x.cut(1, 5))
            .due(WRONG, "no place, and the same", x -> x.cut(2, 2))
            .changeNothing("cut with two");
        new Refusals(c, FULL)
            .due(NO_SUCH, "no fork, and no room", x -> x.cut(0, 16))
            .due(WRONG, "the same, and no room", x -> x.cut(1, 1))
            .due(WRONG, "no place, and no room", x -> x.cut(0, 15))
            .due(NO_WAY, "no way, and no room", x -> x.cut(15, 0))
            .due(NO_WAY, "more than 300 minutes, and no room", x -> x.cut(14, 0))
            .changeNothing("cut without room, with two");
        new Refusals(c, FULL_WITHOUT_WOOD)
            .due(NO_SUCH, "no fork, no wood, and no room", x -> x.cut(16, 0))
            .due(WRONG, "the same, no wood, and no room", x -> x.cut(2, 2))
            .due(WRONG, "no place, no wood, and no room", x -> x.cut(14, 15))
            .due(NO_WAY, "no way, no wood, and no room", x -> x.cut(15, 14))
            .due(NO_WAY, "more than 300 minutes, no wood, and no room", x -> x.cut(14, 0))
            .due(NO_WOOD, "no wood, and no room", x -> x.cut(0, 1))
            .changeNothing("cut without wood and room");
    }

    @Edge({
        "Promise 10: Throws `IndexOutOfBoundsException` if there is no such board",
        "Promise 11: Throws `IndexOutOfBoundsException` if there is no such board",
        "Promise 12: Throws `IndexOutOfBoundsException` if there is no such board",
        "Promise 13: Throws `IndexOutOfBoundsException` if there is no such board",
    })
    static void boards(Checks c) {
        needsNumber(c, "trailOf", 5, 30, WayMarker::trailOf);
        needsNumber(c, "told", 5, 30, WayMarker::told);
        needsNumber(c, "isCovered", 5, 30, WayMarker::isCovered);
        needsNumber(c, "danger", 5, 30, (x, board) -> x.danger(board, true));
        needsNumber(c, "danger, as taken,", 5, 30, (x, board) -> x.danger(board, false));
        WayMarker x = Offices.full(0);
        c.same("trailOf the first one", x.trailOf(0), 0);
        c.same("trailOf the last one", x.trailOf(29), 1);
        c.same("told by the first one", x.told(0), 10);
        c.same("told by the last one", x.told(29), 15);
        c.no("isCovered of the first one", x.isCovered(0));
        c.no("isCovered of the last one", x.isCovered(29));
        c.same("danger of the first one", x.danger(0, true), 0);
        c.same("danger of the last one", x.danger(29, false), 0);
    }

    @Edge({
        "Promise 15: Throws `IllegalArgumentException` if there is no such walker",
        "Promise 15: Throws `IndexOutOfBoundsException` if there is no such trail",
        "Promise 15: - `walker`: the walker, 0 to 9",
        "Terms: If several exceptions apply, the exception that is listed first is thrown.",
    })
    static void report(Checks c) {
        new Refusals(c, NEW)
            .due(NO_SUCH, "no trails", x -> x.report(0, 0, true))
            .due(WRONG, "no walker, and no trails", x -> x.report(10, 0, true))
            .changeNothing("report without trails");
        for (boolean says : new boolean[] {true, false}) {
            Refusals busy = new Refusals(c, BUSY);
            for (int walker : beside(10)) {
                busy.due(WRONG, "walker " + walker, x -> x.report(walker, 1, says));
                busy.due(WRONG, "walker " + walker + ", and no trail", x -> x.report(walker, 7, says));
                busy.due(WRONG, "walker " + walker + ", and a trail below 0", x -> x.report(walker, -1, says));
            }
            for (int trail : beside(7)) {
                busy.due(NO_SUCH, "trail " + trail + " by the first walker", x -> x.report(0, trail, says));
                busy.due(NO_SUCH, "trail " + trail + " by the last walker", x -> x.report(9, trail, says));
            }
            busy.changeNothing("report");
        }
        WayMarker x = Offices.withTrails(24);
        c.no("the first walker of the last trail", x.report(0, 23, true));
        c.yes("the last walker of the last trail", x.report(9, 23, true));
        c.same("both count", x.reports(23), 2);
    }

    @Edge({
        "Promise 16: Throws `IllegalArgumentException` if there is no such walker",
        "Promise 16: - `walker`: the walker, 0 to 9",
    })
    static void trust(Checks c) {
        Refusals busy = new Refusals(c, BUSY);
        for (int walker : beside(10)) {
            busy.due(WRONG, "trust in " + walker, x -> x.trust(walker));
        }
        busy.changeNothing("trust");
        c.same("trust in the first walker", new WayMarker().trust(0), 50);
        c.same("trust in the last walker", new WayMarker().trust(9), 50);
    }

    @Edge("Promise 17: Throws `IndexOutOfBoundsException` if there is no such trail")
    static void reports(Checks c) {
        needsNumber(c, "reports", 7, 24, WayMarker::reports);
        c.same("reports of the last one", Offices.full(0).reports(23), 0);
    }

    @Edge({
        "Promise 18: Throws `IllegalArgumentException` if there is no such kind, or the danger is out of range",
        "Promise 18: - `kind`: 'm' or 'r'",
        "Promise 18: - `danger`: its danger, 0 to 999",
    })
    static void addTaskWithWrongArguments(Checks c) {
        Refusals busy = new Refusals(c, BUSY);
        // Those that stand beside 'm' and 'r', and those that are 'm' and 'r' in their lower half.
        String kinds = "cu" + "lnqs" + "MRCU" + " 0";
        for (char kind : (kinds + (char) 0 + (char) 0xFFFF + (char) ('m' + 256) + (char) ('r' + 256)).toCharArray()) {
            busy.due(WRONG, "kind " + (int) kind, x -> x.addTask(kind, 0, 0));
        }
        for (int danger : new int[] {-1, 1000, -999, 1001, 65536, Integer.MIN_VALUE, Integer.MAX_VALUE}) {
            busy.due(WRONG, "mend with the danger " + danger, x -> x.addTask('m', 0, danger));
            busy.due(WRONG, "replace with the danger " + danger, x -> x.addTask('r', 0, danger));
        }
        busy.changeNothing("addTask");
        for (int danger : new int[] {0, 999}) {
            c.same("mend with the danger " + danger, Offices.busy().addTask('m', 0, danger), 8);
            c.same("replace with the danger " + danger, Offices.busy().addTask('r', 0, danger), 8);
        }
    }

    @Edge("Promise 18: Throws `IndexOutOfBoundsException` if there is no such trail or board")
    static void addTaskOfNothing(Checks c) {
        new Refusals(c, NEW)
            .due(NO_SUCH, "no trails", x -> x.addTask('m', 0, 0))
            .due(NO_SUCH, "no boards", x -> x.addTask('r', 0, 0))
            .changeNothing("addTask without trails and boards");
        Refusals busy = new Refusals(c, BUSY);
        for (int trail : beside(7)) {
            busy.due(NO_SUCH, "mend " + trail, x -> x.addTask('m', trail, 0));
        }
        for (int board : beside(5)) {
            busy.due(NO_SUCH, "replace " + board, x -> x.addTask('r', board, 0));
        }
        busy.due(NO_SUCH, "a board with the number of the last trail", x -> x.addTask('r', 6, 0));
        busy.changeNothing("addTask of nothing");
        c.same("the last trail", Offices.busy().addTask('m', 6, 0), 8);
        c.same("the last board", Offices.busy().addTask('r', 4, 0), 8);
        WayMarker x = Offices.withTrails(1);
        x.cut(0, 1);
        x.cut(0, 1);
        c.same("a board with a number that is no trail's", x.addTask('r', 1, 0), 0);
        c.refuses("a trail with that number", NO_SUCH, () -> x.addTask('m', 1, 0));
    }

    @Edge("Promise 18: Throws `IllegalStateException` if there are 40 tasks")
    static void addTaskWithoutRoom(Checks c) {
        new Refusals(c, FULL)
            .due(NO_ROOM, "a 41st task, to mend", x -> x.addTask('m', 0, 0))
            .due(NO_ROOM, "a 41st task, to replace", x -> x.addTask('r', 29, 999))
            .changeNothing("addTask without room");
    }

    @Edge("Terms: If several exceptions apply, the exception that is listed first is thrown.")
    static void addTaskWithTwo(Checks c) {
        new Refusals(c, BUSY)
            .due(WRONG, "no kind, and no number", x -> x.addTask('c', 99, 0))
            .due(WRONG, "no danger, and no trail", x -> x.addTask('m', 7, -1))
            .due(WRONG, "no danger, and no board", x -> x.addTask('r', -1, 1000))
            .due(WRONG, "no kind, and no danger", x -> x.addTask('u', 0, 1000))
            .changeNothing("addTask with two");
        new Refusals(c, FULL)
            .due(WRONG, "no kind, and no room", x -> x.addTask('u', 0, 0))
            .due(WRONG, "no danger, and no room", x -> x.addTask('m', 0, 1000))
            .due(NO_SUCH, "no trail, and no room", x -> x.addTask('m', 24, 0))
            .due(NO_SUCH, "no board, and no room", x -> x.addTask('r', 30, 0))
            .due(WRONG, "all three", x -> x.addTask('r', 30, -1))
            .changeNothing("addTask without room, with two");
    }

    @Edge({
        "Promise 20: Throws `IndexOutOfBoundsException` if there is no such task",
        "Promise 21: Throws `IndexOutOfBoundsException` if there is no such task",
        "Promise 22: Throws `IndexOutOfBoundsException` if there is no such task",
    })
    static void tasks(Checks c) {
        needsNumber(c, "kindOf", 8, 40, WayMarker::kindOf);
        needsNumber(c, "numberOf", 8, 40, WayMarker::numberOf);
        needsNumber(c, "doneBy", 8, 40, WayMarker::doneBy);
        WayMarker x = Offices.full(0);
        c.same("kindOf the first one", x.kindOf(0), 'm');
        c.same("kindOf the last one", x.kindOf(39), 'm');
        c.same("numberOf the first one", x.numberOf(0), 3);
        c.same("numberOf the last one", x.numberOf(39), 2);
        c.same("doneBy of the first one", x.doneBy(0), 2);
    }

    @Edge("Promise 22: Throws `NoSuchElementException` if it is open")
    static void doneByOfAnOpenOne(Checks c) {
        Refusals busy = new Refusals(c, BUSY);
        for (int task = 4; task < 8; task++) {
            int t = task;
            busy.due(NO_WAY, "open task " + t, x -> x.doneBy(t));
        }
        busy.changeNothing("doneBy of an open one");
        new Refusals(c, FULL).due(NO_WAY, "the last one is open", x -> x.doneBy(39)).changeNothing("doneBy");
        for (int task = 0; task < 4; task++) {
            c.same("task " + task + " is over", Offices.busy().doneBy(task), 0);
        }
    }

    @Edge({
        "Promise 24: Throws `IndexOutOfBoundsException` if there is no such fork",
        "Promise 24: Throws `IllegalArgumentException` if there are no such tools",
        "Promise 24: Throws `IllegalStateException` if there are 4 rangers",
        "Promise 24: - `tools`: the sum of the tools, 0 to 3",
        "Terms: If several exceptions apply, the exception that is listed first is thrown.",
    })
    static void addRanger(Checks c) {
        new Refusals(c, NEW).due(NO_SUCH, "no forks", x -> x.addRanger(0, 0)).changeNothing("addRanger without forks");
        Refusals busy = new Refusals(c, BUSY);
        for (int fork : beside(7)) {
            busy.due(NO_SUCH, "at " + fork, x -> x.addRanger(fork, 3));
            busy.due(NO_SUCH, "at " + fork + ", and no tools", x -> x.addRanger(fork, 4));
        }
        for (int tools : beside(4)) {
            busy.due(WRONG, "tools " + tools, x -> x.addRanger(6, tools));
        }
        busy.changeNothing("addRanger");
        new Refusals(c, FULL)
            .due(NO_ROOM, "a fifth ranger", x -> x.addRanger(0, 0))
            .due(NO_ROOM, "a fifth ranger with all tools", x -> x.addRanger(15, 3))
            .due(NO_SUCH, "no fork, and no room", x -> x.addRanger(16, 0))
            .due(WRONG, "no tools, and no room", x -> x.addRanger(0, -1))
            .due(NO_SUCH, "all three", x -> x.addRanger(-1, 4))
            .changeNothing("addRanger without room");
        WayMarker x = Offices.busy();
        c.same("the third one, without tools", x.addRanger(0, 0), 2);
        c.same("the fourth one, with all tools, at the last fork", x.addRanger(6, 3), 3);
    }

    @Edge({
        "Promise 25: Throws `IndexOutOfBoundsException` if there is no such ranger",
        "Promise 26: Throws `IndexOutOfBoundsException` if there is no such ranger",
    })
    static void rangers(Checks c) {
        needsNumber(c, "forkOf", 2, 4, WayMarker::forkOf);
        needsNumber(c, "worked", 2, 4, WayMarker::worked);
        WayMarker x = Offices.withForks(16);
        for (int ranger = 0; ranger < 4; ranger++) {
            x.addRanger(15 - ranger, 0);
        }
        c.same("forkOf the first one", x.forkOf(0), 15);
        c.same("forkOf the last one", x.forkOf(3), 12);
        c.same("worked by the first one", x.worked(0), 0);
        c.same("worked by the last one", x.worked(3), 0);
    }

    @Edge("Promise 27: Throws `IllegalStateException` if 50 days have passed")
    static void day(Checks c) {
        new Refusals(c, FULL)
            .due(NO_ROOM, "day 51", x -> x.day())
            .due(NO_ROOM, "day 51 again", x -> x.day())
            .changeNothing("day");
        // There is work to do, but no day.
        Supplier<WayMarker> withWork = () -> {
            WayMarker x = Offices.withTrails(2);
            x.cut(0, 1);
            x.print();
            for (int day = 0; day < 50; day++) {
                x.day();
            }
            x.addRanger(1, 3);
            x.addTask('r', 0, 9);
            x.report(3, 0, true);
            Offices.takeAsGone(x, 1);
            x.addTask('m', 1, 9);
            return x;
        };
        new Refusals(c, withWork).due(NO_ROOM, "day 51 with work", x -> x.day()).changeNothing("day with work");
        c.same("the 50 days before", withWork.get().age(0), 50);
    }

    @Edge("Promise 28: Throws `IllegalStateException` if there are 10 maps")
    static void print(Checks c) {
        new Refusals(c, FULL)
            .due(NO_ROOM, "an 11th map", x -> x.print())
            .due(NO_ROOM, "an 11th map again", x -> x.print())
            .changeNothing("print");
    }

    @Edge({
        "Promise 29: Throws `IndexOutOfBoundsException` if there is no such map or trail",
        "Promise 30: Throws `IndexOutOfBoundsException` if there is no such map",
    })
    static void maps(Checks c) {
        needsNumber(c, "age of map", 2, 10, WayMarker::age);
        needsNumber(c, "the last trail on map", 2, 10, (x, map) -> x.shows(map, 6));
        needsNumber(c, "the first map of trail", 7, 24, (x, trail) -> x.shows(0, trail));
        Supplier<WayMarker> mapWithoutTrails = () -> {
            WayMarker x = new WayMarker();
            x.print();
            return x;
        };
        new Refusals(c, mapWithoutTrails).due(NO_SUCH, "a map, but no trail", x -> x.shows(0, 0))
            .changeNothing("a map without trails");
        new Refusals(c, () -> Offices.withTrails(1)).due(NO_SUCH, "a trail, but no map", x -> x.shows(0, 0))
            .changeNothing("a trail without maps");
        new Refusals(c, BUSY).due(NO_SUCH, "neither map nor trail", x -> x.shows(2, 7)).changeNothing("neither");
        WayMarker x = Offices.full(0);
        c.yes("the last trail on the first map", x.shows(0, 23));
        c.yes("the last trail on the last map", x.shows(9, 23));
        c.same("the first map", x.age(0), 9);
        c.same("the last map", x.age(9), 0);
    }

    @Edge("Promise 31: Throws `ArithmeticException` if there are none")
    static void knownShare(Checks c) {
        new Refusals(c, NEW).due(NONE, "no trails", x -> x.knownShare()).changeNothing("knownShare");
        new Refusals(c, () -> Offices.withForks(16)).due(NONE, "forks, but no trails", x -> x.knownShare())
            .changeNothing("knownShare with forks");
        c.same("one trail", Offices.withTrails(1).knownShare(), 1f);
    }

    @Edge("Promise 32: Throws `ArithmeticException` if there are none")
    static void meanDanger(Checks c) {
        new Refusals(c, NEW).due(NONE, "no boards", x -> x.meanDanger()).changeNothing("meanDanger");
        new Refusals(c, () -> Offices.withTrails(24)).due(NONE, "trails, but no boards", x -> x.meanDanger())
            .changeNothing("meanDanger with trails");
        WayMarker x = Offices.withTrails(1);
        x.cut(0, 1);
        c.same("one board", x.meanDanger(), 0.0);
    }
}
