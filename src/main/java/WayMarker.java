import java.util.NoSuchElementException;

/** An office of trail maps with a workshop for signs, rangers with tasks, and reports of storms. */
public final class WayMarker {
    private static final int MOST_FORKS = 16;
    private static final int MOST_TRAILS = 24;
    private static final int MOST_TRAIL_MINUTES = 300;
    // More than any way can have, and small enough that two of it can be added.
    private static final int NO_WAY = 1000000;

    private static final int MOST_BOARDS = 30;
    private static final int MOST_TOLD = 300;
    private static final int TOLD_STEP = 5;
    private static final int WOOD_AT_FIRST = 10;
    private static final int MOST_WOOD_ADDED = 99;
    private static final int LEAST_LIE = 30;
    private static final int MOST_DETOUR_DANGER = 999;
    private static final int NO_WAY_DANGER = 1000;

    private static final int WALKERS = 10;
    private static final int MOST_TRUST = 100;
    private static final int TRUST_AT_FIRST = 50;
    private static final int TRUST_WON = 10;
    private static final int TRUST_LOST = 20;
    private static final int TRUST_NEEDED = 100;
    private static final int SAID_NOTHING = 0;
    private static final int SAID_PASSABLE = 1;
    private static final int SAID_GONE = 2;

    private static final int MOST_TASKS = 40;
    private static final int MOST_TASK_DANGER = 999;
    private static final int OPEN = -1;
    private static final int NONE = -1;
    private static final char COVER = 'c';
    private static final char UNCOVER = 'u';
    private static final char REPLACE = 'r';
    private static final char MEND = 'm';
    private static final int COVER_MINUTES = 10;
    private static final int REPLACE_MINUTES = 30;
    private static final int MEND_MINUTES = 200;
    private static final int REPLACE_TOOL = 1;
    private static final int MEND_TOOL = 2;

    private static final int MOST_RANGERS = 4;
    private static final int ALL_TOOLS = 3;
    private static final int DAY_MINUTES = 480;
    private static final int MOST_DAYS = 50;
    // A day has at most a turn for each task and each trail, and a walk a step for each fork and each trail.
    private static final int MOST_TURNS = 1000;
    private static final int MOST_MAPS = 10;

    private final Net net = new Net();
    private final Boards boards = new Boards();
    private final Walkers walkers = new Walkers();
    private final Tasks tasks = new Tasks();
    private final Rangers rangers = new Rangers();
    private final Maps maps = new Maps();
    private int today = 0;

    public WayMarker() {
    }

    // ---- trails

    public int addFork(boolean isPlace) throws IllegalStateException {
        if (net.forks >= MOST_FORKS) {
            throw new IllegalStateException("no room for a fork");
        }
        net.isPlace[net.forks] = isPlace;
        net.forks++;
        return net.forks - 1;
    }

    public int addTrail(int from, int to, int forth, int back)
            throws IndexOutOfBoundsException, IllegalArgumentException, IllegalStateException {
        requireFork(from);
        requireFork(to);
        if (from == to) {
            throw new IllegalArgumentException("a trail needs two forks");
        }
        requireTrailMinutes(forth);
        requireTrailMinutes(back);
        if (net.trails >= MOST_TRAILS) {
            throw new IllegalStateException("no room for a trail");
        }
        return net.join(from, to, forth, back);
    }

    public boolean washOut(int trail) throws IndexOutOfBoundsException {
        requireTrail(trail);
        boolean wasPassable = !net.truth.gone[trail];
        net.setGone(net.truth, trail, true);
        return wasPassable;
    }

    public boolean isGone(int trail, boolean isTrue) throws IndexOutOfBoundsException {
        requireTrail(trail);
        return net.view(isTrue).gone[trail];
    }

    public int minutes(int from, int to, boolean isTrue) throws IndexOutOfBoundsException, NoSuchElementException {
        requireFork(from);
        requireFork(to);
        int least = net.view(isTrue).leastMinutes(from, to);
        if (least >= NO_WAY) {
            throw new NoSuchElementException("no way");
        }
        return least;
    }

    public int firstTrail(int from, int to) throws IndexOutOfBoundsException, NoSuchElementException {
        requireFork(from);
        requireFork(to);
        int trail = net.trailTowards(from, to);
        if (trail == NONE) {
            throw new NoSuchElementException("no first trail");
        }
        return trail;
    }

    // ---- boards

    public int addWood(int wood) throws IllegalArgumentException {
        if (wood < 1 || wood > MOST_WOOD_ADDED) {
            throw new IllegalArgumentException("wood out of range");
        }
        boards.wood += wood;
        return boards.wood;
    }

    public int cut(int fork, int place)
            throws IndexOutOfBoundsException, IllegalArgumentException, NoSuchElementException,
            UnsupportedOperationException, IllegalStateException {
        requireFork(fork);
        requireFork(place);
        if (!net.isPlace[place] || fork == place) {
            throw new IllegalArgumentException("a board names another fork that is a place");
        }
        if (!canTell(fork, place)) {
            throw new NoSuchElementException("no way, or too long a one");
        }
        if (boards.wood < 1) {
            throw new UnsupportedOperationException("no wood");
        }
        if (boards.count >= MOST_BOARDS) {
            throw new IllegalStateException("no room for a board");
        }
        int board = boards.count;
        boards.count++;
        boards.fork[board] = fork;
        boards.place[board] = place;
        putUp(board);
        return board;
    }

    public int trailOf(int board) throws IndexOutOfBoundsException {
        requireBoard(board);
        return boards.trail[board];
    }

    public int told(int board) throws IndexOutOfBoundsException {
        requireBoard(board);
        return boards.minutesTold[board];
    }

    public boolean isCovered(int board) throws IndexOutOfBoundsException {
        requireBoard(board);
        return boards.covered[board];
    }

    public int danger(int board, boolean isTrue) throws IndexOutOfBoundsException {
        requireBoard(board);
        return boards.dangerBy(board, net, net.view(isTrue));
    }

    public int unsafe(boolean isTrue) {
        int found = 0;
        for (int board = 0; board < boards.count; board++) {
            if (!boards.covered[board] && boards.dangerBy(board, net, net.view(isTrue)) == NO_WAY_DANGER) {
                found++;
            }
        }
        return found;
    }

    // ---- reports

    public boolean report(int walker, int trail, boolean isGone)
            throws IllegalArgumentException, IndexOutOfBoundsException {
        requireWalker(walker);
        requireTrail(trail);
        walkers.note(walker, trail, isGone);
        net.setGone(net.taken, trail, walkers.believe(trail, net.taken.gone[trail]));
        return net.taken.gone[trail];
    }

    public int trust(int walker) throws IllegalArgumentException {
        requireWalker(walker);
        return walkers.trustIn[walker];
    }

    public int reports(int trail) throws IndexOutOfBoundsException {
        requireTrail(trail);
        return walkers.countNotes(trail);
    }

    // ---- tasks and rangers

    public int addTask(char kind, int number, int danger)
            throws IllegalArgumentException, IndexOutOfBoundsException, IllegalStateException {
        if (kind != MEND && kind != REPLACE) {
            throw new IllegalArgumentException("no such kind of task to make");
        }
        if (danger < 0 || danger > MOST_TASK_DANGER) {
            throw new IllegalArgumentException("danger out of range");
        }
        if (kind == MEND) {
            requireTrail(number);
        } else {
            requireBoard(number);
        }
        if (!tasks.hasRoom()) {
            throw new IllegalStateException("no room for a task");
        }
        return tasks.make(kind, number, danger);
    }

    public int plan() {
        int made = 0;
        for (int turn = 0; turn < MOST_BOARDS && tasks.hasRoom(); turn++) {
            int board = nextToPlan();
            if (board == NONE) {
                return made;
            }
            tasks.make(kindToPlan(board), board, boards.dangerBy(board, net, net.taken));
            made++;
        }
        return made;
    }

    public char kindOf(int task) throws IndexOutOfBoundsException {
        requireTask(task);
        return tasks.kind[task];
    }

    public int numberOf(int task) throws IndexOutOfBoundsException {
        requireTask(task);
        return tasks.number[task];
    }

    public int doneBy(int task) throws IndexOutOfBoundsException, NoSuchElementException {
        requireTask(task);
        if (tasks.isOpen(task)) {
            throw new NoSuchElementException("the task is open");
        }
        return tasks.doer[task];
    }

    public int openTasks() {
        int found = 0;
        for (int task = 0; task < tasks.count; task++) {
            if (tasks.isOpen(task)) {
                found++;
            }
        }
        return found;
    }

    public int addRanger(int fork, int tools)
            throws IndexOutOfBoundsException, IllegalArgumentException, IllegalStateException {
        requireFork(fork);
        if (tools < 0 || tools > ALL_TOOLS) {
            throw new IllegalArgumentException("no such tools");
        }
        if (rangers.count >= MOST_RANGERS) {
            throw new IllegalStateException("no room for a ranger");
        }
        return rangers.enlist(fork, tools);
    }

    public int forkOf(int ranger) throws IndexOutOfBoundsException {
        requireRanger(ranger);
        return rangers.fork[ranger];
    }

    public int worked(int ranger) throws IndexOutOfBoundsException {
        requireRanger(ranger);
        return rangers.minutesWorked[ranger];
    }

    public int day() throws IllegalStateException {
        if (today >= MOST_DAYS) {
            throw new IllegalStateException("no day is left");
        }
        int done = 0;
        for (int ranger = 0; ranger < rangers.count; ranger++) {
            done += sendOut(ranger);
        }
        today++;
        return done;
    }

    // ---- maps and figures

    public int print() throws IllegalStateException {
        if (maps.count >= MOST_MAPS) {
            throw new IllegalStateException("no room for a map");
        }
        return maps.draw(net, today);
    }

    public boolean shows(int map, int trail) throws IndexOutOfBoundsException {
        requireMap(map);
        requireTrail(trail);
        return maps.isDrawn(map, trail);
    }

    public int age(int map) throws IndexOutOfBoundsException {
        requireMap(map);
        return today - maps.printedOn[map];
    }

    public float knownShare() throws ArithmeticException {
        if (net.trails < 1) {
            throw new ArithmeticException("no trails");
        }
        int known = 0;
        for (int trail = 0; trail < net.trails; trail++) {
            if (net.taken.gone[trail] == net.truth.gone[trail]) {
                known++;
            }
        }
        return (float) known / (float) net.trails;
    }

    public double meanDanger() throws ArithmeticException {
        if (boards.count < 1) {
            throw new ArithmeticException("no boards");
        }
        int sum = 0;
        for (int board = 0; board < boards.count; board++) {
            sum += boards.dangerBy(board, net, net.taken);
        }
        return (double) sum / (double) boards.count;
    }

    public boolean isSound() {
        return net.hasLeastMinutes(net.truth) && net.hasLeastMinutes(net.taken) && tasks.areDoneByOneOf(rangers.count);
    }

    // ---- what must be there

    private void requireFork(int fork) {
        if (fork < 0 || fork >= net.forks) {
            throw new IndexOutOfBoundsException("no such fork");
        }
    }

    private void requireTrail(int trail) {
        if (trail < 0 || trail >= net.trails) {
            throw new IndexOutOfBoundsException("no such trail");
        }
    }

    private void requireBoard(int board) {
        if (board < 0 || board >= boards.count) {
            throw new IndexOutOfBoundsException("no such board");
        }
    }

    private void requireTask(int task) {
        if (task < 0 || task >= tasks.count) {
            throw new IndexOutOfBoundsException("no such task");
        }
    }

    private void requireRanger(int ranger) {
        if (ranger < 0 || ranger >= rangers.count) {
            throw new IndexOutOfBoundsException("no such ranger");
        }
    }

    private void requireMap(int map) {
        if (map < 0 || map >= maps.count) {
            throw new IndexOutOfBoundsException("no such map");
        }
    }

    private void requireWalker(int walker) {
        if (walker < 0 || walker >= WALKERS) {
            throw new IllegalArgumentException("no such walker");
        }
    }

    private void requireTrailMinutes(int minutes) {
        if (minutes < 1 || minutes > MOST_TRAIL_MINUTES) {
            throw new IllegalArgumentException("minutes out of range");
        }
    }

    // ---- the workshop

    private boolean canTell(int fork, int place) {
        return net.taken.leastMinutes(fork, place) <= MOST_TOLD;
    }

    /** Cuts what the board tells, by the way that the office takes now, for which there is wood. */
    private void putUp(int board) {
        int fork = boards.fork[board];
        int place = boards.place[board];
        int trail = net.trailTowards(fork, place);
        // Where canTell holds there is one; NONE is looked at all the same, as no board may tell it.
        if (trail != NONE) {
            boards.trail[board] = trail;
        }
        boards.minutesTold[board] = roundUp(net.taken.leastMinutes(fork, place));
        boards.covered[board] = false;
        boards.wood--;
    }

    private static int roundUp(int minutes) {
        return (minutes + TOLD_STEP - 1) / TOLD_STEP * TOLD_STEP;
    }

    // ---- planning

    /** The board with the most danger, of several the lowest one, that is to have a task, or NONE. */
    private int nextToPlan() {
        int best = NONE;
        int most = NONE;
        for (int board = 0; board < boards.count; board++) {
            int danger = boards.dangerBy(board, net, net.taken);
            boolean isWrong = boards.covered[board] ? danger == 0 : danger > 0;
            if (isWrong && danger > most && !tasks.isAsked(kindToPlan(board), board)) {
                best = board;
                most = danger;
            }
        }
        return best;
    }

    private char kindToPlan(int board) {
        return boards.covered[board] ? UNCOVER : COVER;
    }

    // ---- rangers on their way

    /** Lets a ranger walk and work for a day, and returns how many tasks were done. */
    private int sendOut(int ranger) {
        int done = 0;
        rangers.minutesLeft = DAY_MINUTES;
        for (int turn = 0; turn < MOST_TURNS; turn++) {
            int task = chooseTask(ranger);
            if (task == NONE) {
                return done;
            }
            // The task may have lost its sense by what the ranger saw on the way.
            if (comesTo(ranger, task) && makesSense(task)) {
                carryOut(ranger, task);
                done++;
            }
        }
        return done;
    }

    private int chooseTask(int ranger) {
        int best = NONE;
        for (int task = 0; task < tasks.count; task++) {
            boolean isBetter = best == NONE || tasks.danger[task] > tasks.danger[best];
            if (isBetter && tasks.isOpen(task) && rangers.hasTool(ranger, toolFor(tasks.kind[task]))
                    && makesSense(task) && hasTimeFor(ranger, task)) {
                best = task;
            }
        }
        return best;
    }

    private boolean makesSense(int task) {
        char kind = tasks.kind[task];
        int number = tasks.number[task];
        if (kind == MEND) {
            return net.taken.gone[number];
        }
        if (kind == REPLACE) {
            return boards.wood > 0 && canTell(boards.fork[number], boards.place[number]);
        }
        return boards.covered[number] == (kind == UNCOVER);
    }

    private boolean hasTimeFor(int ranger, int task) {
        int way = net.taken.leastMinutes(rangers.fork[ranger], goalOf(task));
        return way + minutesFor(tasks.kind[task]) <= rangers.minutesLeft;
    }

    private int goalOf(int task) {
        int number = tasks.number[task];
        return tasks.kind[task] == MEND ? net.first[number] : boards.fork[number];
    }

    private static int minutesFor(char kind) {
        if (kind == MEND) {
            return MEND_MINUTES;
        }
        return kind == REPLACE ? REPLACE_MINUTES : COVER_MINUTES;
    }

    private static int toolFor(char kind) {
        if (kind == MEND) {
            return MEND_TOOL;
        }
        return kind == REPLACE ? REPLACE_TOOL : 0;
    }

    /** Goes to where the task is to be done, and returns whether the ranger came there. */
    private boolean comesTo(int ranger, int task) {
        int goal = goalOf(task);
        for (int step = 0; step < MOST_TURNS; step++) {
            int here = rangers.fork[ranger];
            if (here == goal) {
                return true;
            }
            int trail = net.trailTowards(here, goal);
            if (trail == NONE || !hasTimeFor(ranger, task)) {
                return false;
            }
            see(trail);
            if (!net.truth.gone[trail]) {
                rangers.spend(ranger, net.minutesFrom(trail, here));
                rangers.fork[ranger] = net.otherEnd(trail, here);
            }
        }
        return false;
    }

    private void see(int trail) {
        boolean isSeenGone = net.truth.gone[trail];
        net.setGone(net.taken, trail, isSeenGone);
        walkers.judge(trail, isSeenGone);
    }

    private void carryOut(int ranger, int task) {
        char kind = tasks.kind[task];
        int number = tasks.number[task];
        if (kind == MEND) {
            see(number);
            net.setGone(net.truth, number, false);
            net.setGone(net.taken, number, false);
        } else if (kind == REPLACE) {
            putUp(number);
        } else {
            boards.covered[number] = kind == COVER;
        }
        rangers.spend(ranger, minutesFor(kind));
        tasks.doer[task] = ranger;
    }

    /** One view of the trails, as they are or as the office takes them: which are gone, and the ways by the others. */
    private static final class View {
        final boolean[] gone = new boolean[MOST_TRAILS];
        // The least minutes from each fork to each one, in rows of MOST_FORKS.
        final int[] least = new int[MOST_FORKS * MOST_FORKS];

        View() {
            forgetWays();
        }

        void forgetWays() {
            for (int from = 0; from < MOST_FORKS; from++) {
                for (int to = 0; to < MOST_FORKS; to++) {
                    least[from * MOST_FORKS + to] = from == to ? 0 : NO_WAY;
                }
            }
        }

        int leastMinutes(int from, int to) {
            return least[from * MOST_FORKS + to];
        }
    }

    /** The forks and the trails between them. */
    private static final class Net {
        final boolean[] isPlace = new boolean[MOST_FORKS];
        final int[] first = new int[MOST_TRAILS];
        final int[] second = new int[MOST_TRAILS];
        final int[] forthMinutes = new int[MOST_TRAILS];
        final int[] backMinutes = new int[MOST_TRAILS];
        final View truth = new View();
        final View taken = new View();
        // Room for finding all ways in another manner, to compare them.
        final int[] compared = new int[MOST_FORKS * MOST_FORKS];
        int forks = 0;
        int trails = 0;

        View view(boolean isTrue) {
            return isTrue ? truth : taken;
        }

        int join(int from, int to, int forth, int back) {
            int trail = trails;
            trails++;
            first[trail] = from;
            second[trail] = to;
            forthMinutes[trail] = forth;
            backMinutes[trail] = back;
            findWays(truth);
            findWays(taken);
            return trail;
        }

        void setGone(View view, int trail, boolean isGone) {
            if (view.gone[trail] != isGone) {
                view.gone[trail] = isGone;
                findWays(view);
            }
        }

        int otherEnd(int trail, int fork) {
            return first[trail] == fork ? second[trail] : first[trail];
        }

        int minutesFrom(int trail, int fork) {
            return first[trail] == fork ? forthMinutes[trail] : backMinutes[trail];
        }

        /** The first trail of the way as the office takes it, or NONE. */
        int trailTowards(int from, int to) {
            int least = taken.leastMinutes(from, to);
            if (from == to || least >= NO_WAY) {
                return NONE;
            }
            for (int trail = 0; trail < trails; trail++) {
                boolean isHere = first[trail] == from || second[trail] == from;
                if (isHere && !taken.gone[trail] && minutesBy(trail, from, to, taken) == least) {
                    return trail;
                }
            }
            return NONE;
        }

        /** The minutes from a fork to another one by this trail at first; NO_WAY or more if there is no way. */
        int minutesBy(int trail, int from, int to, View view) {
            return minutesFrom(trail, from) + view.leastMinutes(otherEnd(trail, from), to);
        }

        void findWays(View view) {
            view.forgetWays();
            boolean isShorter = true;
            for (int round = 1; round < forks && isShorter; round++) {
                isShorter = false;
                for (int trail = 0; trail < trails; trail++) {
                    if (!view.gone[trail] && shortenBy(trail, view.least)) {
                        isShorter = true;
                    }
                }
            }
        }

        /** Shortens all ways that are shorter by a trail, and returns whether there were any. */
        boolean shortenBy(int trail, int[] least) {
            boolean isShorter = false;
            int firstRow = first[trail] * MOST_FORKS;
            int secondRow = second[trail] * MOST_FORKS;
            for (int to = 0; to < forks; to++) {
                int forth = forthMinutes[trail] + least[secondRow + to];
                if (forth < least[firstRow + to]) {
                    least[firstRow + to] = forth;
                    isShorter = true;
                }
                int back = backMinutes[trail] + least[firstRow + to];
                if (back < least[secondRow + to]) {
                    least[secondRow + to] = back;
                    isShorter = true;
                }
            }
            return isShorter;
        }

        boolean hasLeastMinutes(View view) {
            startComparing(view);
            for (int between = 0; between < forks; between++) {
                allowBetween(between);
            }
            for (int from = 0; from < forks; from++) {
                for (int to = 0; to < forks; to++) {
                    if (compared[from * MOST_FORKS + to] != view.leastMinutes(from, to)) {
                        return false;
                    }
                }
            }
            return true;
        }

        /** Compares with ways of one trail at first, which have no fork between. */
        void startComparing(View view) {
            for (int from = 0; from < forks; from++) {
                for (int to = 0; to < forks; to++) {
                    compared[from * MOST_FORKS + to] = from == to ? 0 : NO_WAY;
                }
            }
            for (int trail = 0; trail < trails; trail++) {
                if (!view.gone[trail]) {
                    int forth = first[trail] * MOST_FORKS + second[trail];
                    int back = second[trail] * MOST_FORKS + first[trail];
                    compared[forth] = Math.min(compared[forth], forthMinutes[trail]);
                    compared[back] = Math.min(compared[back], backMinutes[trail]);
                }
            }
        }

        void allowBetween(int between) {
            for (int from = 0; from < forks; from++) {
                int there = compared[from * MOST_FORKS + between];
                for (int to = 0; to < forks; to++) {
                    int at = from * MOST_FORKS + to;
                    compared[at] = Math.min(compared[at], there + compared[between * MOST_FORKS + to]);
                }
            }
        }
    }

    /** The boards at the forks, and the wood for more of them. */
    private static final class Boards {
        final int[] fork = new int[MOST_BOARDS];
        final int[] place = new int[MOST_BOARDS];
        final int[] trail = new int[MOST_BOARDS];
        final int[] minutesTold = new int[MOST_BOARDS];
        final boolean[] covered = new boolean[MOST_BOARDS];
        int count = 0;
        int wood = WOOD_AT_FIRST;

        int dangerBy(int board, Net net, View view) {
            if (view.gone[trail[board]]) {
                return NO_WAY_DANGER;
            }
            int minutes = net.minutesBy(trail[board], fork[board], place[board], view);
            if (minutes >= NO_WAY) {
                return NO_WAY_DANGER;
            }
            int detour = minutes - minutesTold[board];
            return detour < LEAST_LIE ? 0 : Math.min(detour, MOST_DETOUR_DANGER);
        }
    }

    /** The walkers, what they reported, and how far the office trusts them. */
    private static final class Walkers {
        final int[] trustIn = new int[WALKERS];
        // What each walker said of each trail, in rows of WALKERS.
        final int[] said = new int[MOST_TRAILS * WALKERS];

        Walkers() {
            for (int walker = 0; walker < WALKERS; walker++) {
                trustIn[walker] = TRUST_AT_FIRST;
            }
        }

        void note(int walker, int trail, boolean isGone) {
            said[trail * WALKERS + walker] = isGone ? SAID_GONE : SAID_PASSABLE;
        }

        int countNotes(int trail) {
            int found = 0;
            for (int walker = 0; walker < WALKERS; walker++) {
                if (said[trail * WALKERS + walker] != SAID_NOTHING) {
                    found++;
                }
            }
            return found;
        }

        /** Whether a trail is to be taken as gone by the reports of it, if it was taken so or not so far. */
        boolean believe(int trail, boolean wasGone) {
            int gone = trustOfAll(trail, SAID_GONE);
            int passable = trustOfAll(trail, SAID_PASSABLE);
            if (gone >= TRUST_NEEDED && gone > passable) {
                return true;
            }
            if (passable >= TRUST_NEEDED && passable >= gone) {
                return false;
            }
            return wasGone;
        }

        int trustOfAll(int trail, int word) {
            int sum = 0;
            for (int walker = 0; walker < WALKERS; walker++) {
                if (said[trail * WALKERS + walker] == word) {
                    sum += trustIn[walker];
                }
            }
            return sum;
        }

        /** Changes the trust by what is seen of a trail, and drops the reports of it. */
        void judge(int trail, boolean isGone) {
            int right = isGone ? SAID_GONE : SAID_PASSABLE;
            for (int walker = 0; walker < WALKERS; walker++) {
                int word = said[trail * WALKERS + walker];
                if (word == right) {
                    trustIn[walker] = Math.min(trustIn[walker] + TRUST_WON, MOST_TRUST);
                } else if (word != SAID_NOTHING) {
                    trustIn[walker] = Math.max(trustIn[walker] - TRUST_LOST, 0);
                }
                said[trail * WALKERS + walker] = SAID_NOTHING;
            }
        }
    }

    /** The tasks, open or over. */
    private static final class Tasks {
        final char[] kind = new char[MOST_TASKS];
        final int[] number = new int[MOST_TASKS];
        final int[] danger = new int[MOST_TASKS];
        final int[] doer = new int[MOST_TASKS];
        int count = 0;

        boolean hasRoom() {
            return count < MOST_TASKS;
        }

        /** Makes a task, for which there is room. */
        int make(char ofKind, int ofNumber, int withDanger) {
            int task = count;
            count++;
            kind[task] = ofKind;
            number[task] = ofNumber;
            danger[task] = withDanger;
            doer[task] = OPEN;
            return task;
        }

        boolean isOpen(int task) {
            return doer[task] == OPEN;
        }

        boolean isAsked(char ofKind, int ofNumber) {
            for (int task = 0; task < count; task++) {
                if (isOpen(task) && kind[task] == ofKind && number[task] == ofNumber) {
                    return true;
                }
            }
            return false;
        }

        boolean areDoneByOneOf(int rangers) {
            for (int task = 0; task < count; task++) {
                if (!isOpen(task) && (doer[task] < 0 || doer[task] >= rangers)) {
                    return false;
                }
            }
            return true;
        }
    }

    /** The rangers, and what is left of the day to the one who is out. */
    private static final class Rangers {
        final int[] fork = new int[MOST_RANGERS];
        final int[] tools = new int[MOST_RANGERS];
        final int[] minutesWorked = new int[MOST_RANGERS];
        int count = 0;
        int minutesLeft = 0;

        int enlist(int atFork, int withTools) {
            int ranger = count;
            count++;
            fork[ranger] = atFork;
            tools[ranger] = withTools;
            return ranger;
        }

        boolean hasTool(int ranger, int tool) {
            return (tools[ranger] & tool) == tool;
        }

        void spend(int ranger, int minutes) {
            minutesLeft -= minutes;
            minutesWorked[ranger] += minutes;
        }
    }

    /** The maps in print. */
    private static final class Maps {
        // Which trails each map shows, in rows of MOST_TRAILS.
        final boolean[] drawn = new boolean[MOST_MAPS * MOST_TRAILS];
        final int[] printedOn = new int[MOST_MAPS];
        int count = 0;

        int draw(Net net, int today) {
            int map = count;
            count++;
            printedOn[map] = today;
            for (int trail = 0; trail < net.trails; trail++) {
                drawn[map * MOST_TRAILS + trail] = !net.taken.gone[trail];
            }
            return map;
        }

        boolean isDrawn(int map, int trail) {
            return drawn[map * MOST_TRAILS + trail];
        }
    }
}
