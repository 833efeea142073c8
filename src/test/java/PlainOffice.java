import java.util.ArrayList;
import java.util.Comparator;
import java.util.HashMap;
import java.util.List;
import java.util.Map;
import java.util.NoSuchElementException;

/** The office once more, written plainly from the document, to compare the program with: it keeps no ways. */
final class PlainOffice {
    private static final class Trail {
        int number;
        int from;
        int to;
        int forth;
        int back;
        boolean isGone;
        boolean isTakenAsGone;
        final Map<Integer, Boolean> reports = new HashMap<>();

        boolean gone(boolean isTrue) {
            return isTrue ? isGone : isTakenAsGone;
        }
    }

    private static final class Board {
        int fork;
        int place;
        Trail trail;
        int told;
        boolean isCovered;
    }

    private static final class Task {
        char kind;
        int number;
        int danger;
        int ranger = -1;
    }

    private static final class Ranger {
        int number;
        int fork;
        int tools;
        int worked;
        int left;
    }

    private static final class Sheet {
        final List<Trail> shown = new ArrayList<>();
        int day;
    }

    private final List<Boolean> forks = new ArrayList<>();
    private final List<Trail> trails = new ArrayList<>();
    private final List<Board> boards = new ArrayList<>();
    private final List<Task> tasks = new ArrayList<>();
    private final List<Ranger> rangers = new ArrayList<>();
    private final List<Sheet> sheets = new ArrayList<>();
    private final int[] trust = {50, 50, 50, 50, 50, 50, 50, 50, 50, 50};
    private int wood = 10;
    private int days = 0;

    int addFork(boolean isPlace) {
        if (forks.size() == 16) {
            throw new IllegalStateException();
        }
        forks.add(isPlace);
        return forks.size() - 1;
    }

    int addTrail(int from, int to, int forth, int back) {
        look(from, forks);
        look(to, forks);
        if (from == to || forth < 1 || back < 1 || forth > 300 || back > 300) {
            throw new IllegalArgumentException();
        }
        if (trails.size() == 24) {
            throw new IllegalStateException();
        }
        Trail trail = new Trail();
        trail.number = trails.size();
        trail.from = from;
        trail.to = to;
        trail.forth = forth;
        trail.back = back;
        trails.add(trail);
        return trail.number;
    }

    boolean washOut(int number) {
        Trail trail = look(number, trails);
        boolean was = trail.isGone;
        trail.isGone = true;
        return !was;
    }

    boolean isGone(int trail, boolean isTrue) {
        return look(trail, trails).gone(isTrue);
    }

    int minutes(int from, int to, boolean isTrue) {
        look(from, forks);
        look(to, forks);
        Integer way = way(from, to, isTrue);
        if (way == null) {
            throw new NoSuchElementException();
        }
        return way;
    }

    int firstTrail(int from, int to) {
        look(from, forks);
        look(to, forks);
        Trail trail = first(from, to);
        if (trail == null) {
            throw new NoSuchElementException();
        }
        return trail.number;
    }

    int addWood(int more) {
        if (more < 1 || more > 99) {
            throw new IllegalArgumentException();
        }
        wood += more;
        return wood;
    }

    int cut(int fork, int place) {
        look(fork, forks);
        if (!look(place, forks) || fork == place) {
            throw new IllegalArgumentException();
        }
        Integer way = way(fork, place, false);
        if (way == null || way > 300) {
            throw new NoSuchElementException();
        }
        if (wood == 0) {
            throw new UnsupportedOperationException();
        }
        if (boards.size() == 30) {
            throw new IllegalStateException();
        }
        Board board = new Board();
        board.fork = fork;
        board.place = place;
        carve(board);
        boards.add(board);
        return boards.size() - 1;
    }

    int trailOf(int board) {
        return look(board, boards).trail.number;
    }

    int told(int board) {
        return look(board, boards).told;
    }

    boolean isCovered(int board) {
        return look(board, boards).isCovered;
    }

    int danger(int board, boolean isTrue) {
        return dangerOf(look(board, boards), isTrue);
    }

    int unsafe(boolean isTrue) {
        return (int) boards.stream().filter(b -> !b.isCovered && dangerOf(b, isTrue) == 1000).count();
    }

    boolean report(int walker, int number, boolean isGone) {
        trust(walker);
        Trail trail = look(number, trails);
        trail.reports.put(walker, isGone);
        int yes = 0;
        int no = 0;
        for (Map.Entry<Integer, Boolean> report : trail.reports.entrySet()) {
            if (report.getValue()) {
                yes += trust[report.getKey()];
            } else {
                no += trust[report.getKey()];
            }
        }
        if (yes >= 100 && yes > no) {
            trail.isTakenAsGone = true;
        } else if (no >= 100 && no >= yes) {
            trail.isTakenAsGone = false;
        }
        return trail.isTakenAsGone;
    }

    int trust(int walker) {
        if (walker < 0 || walker > 9) {
            throw new IllegalArgumentException();
        }
        return trust[walker];
    }

    int reports(int trail) {
        return look(trail, trails).reports.size();
    }

    int addTask(char kind, int number, int danger) {
        if (kind != 'm' && kind != 'r' || danger < 0 || danger > 999) {
            throw new IllegalArgumentException();
        }
        look(number, kind == 'm' ? trails : boards);
        if (tasks.size() == 40) {
            throw new IllegalStateException();
        }
        task(kind, number, danger);
        return tasks.size() - 1;
    }

    int plan() {
        List<Task> wanted = new ArrayList<>();
        for (int number = 0; number < boards.size(); number++) {
            Board board = boards.get(number);
            int danger = dangerOf(board, false);
            if (board.isCovered != (danger > 0)) {
                Task task = new Task();
                task.kind = board.isCovered ? 'u' : 'c';
                task.number = number;
                task.danger = danger;
                if (tasks.stream().noneMatch(t -> t.ranger < 0 && t.kind == task.kind && t.number == task.number)) {
                    wanted.add(task);
                }
            }
        }
        // The sort is stable: of the same danger, the boards go on rising.
        wanted.sort(Comparator.comparingInt(t -> -t.danger));
        int made = 0;
        for (Task task : wanted) {
            if (tasks.size() < 40) {
                tasks.add(task);
                made++;
            }
        }
        return made;
    }

    char kindOf(int task) {
        return look(task, tasks).kind;
    }

    int numberOf(int task) {
        return look(task, tasks).number;
    }

    int doneBy(int number) {
        Task task = look(number, tasks);
        if (task.ranger < 0) {
            throw new NoSuchElementException();
        }
        return task.ranger;
    }

    int openTasks() {
        return (int) tasks.stream().filter(t -> t.ranger < 0).count();
    }

    int addRanger(int fork, int tools) {
        look(fork, forks);
        if (tools < 0 || tools > 3) {
            throw new IllegalArgumentException();
        }
        if (rangers.size() == 4) {
            throw new IllegalStateException();
        }
        Ranger ranger = new Ranger();
        ranger.number = rangers.size();
        ranger.fork = fork;
        ranger.tools = tools;
        rangers.add(ranger);
        return ranger.number;
    }

    int forkOf(int ranger) {
        return look(ranger, rangers).fork;
    }

    int worked(int ranger) {
        return look(ranger, rangers).worked;
    }

    int day() {
        if (days == 50) {
            throw new IllegalStateException();
        }
        days++;
        int done = 0;
        for (Ranger ranger : rangers) {
            ranger.left = 480;
            Task task = choice(ranger);
            while (task != null) {
                if (arrives(ranger, task) && canBeDone(task)) {
                    work(ranger, task);
                    done++;
                }
                task = choice(ranger);
            }
        }
        return done;
    }

    int print() {
        if (sheets.size() == 10) {
            throw new IllegalStateException();
        }
        Sheet sheet = new Sheet();
        sheet.day = days;
        for (Trail trail : trails) {
            if (!trail.isTakenAsGone) {
                sheet.shown.add(trail);
            }
        }
        sheets.add(sheet);
        return sheets.size() - 1;
    }

    boolean shows(int map, int trail) {
        return look(map, sheets).shown.contains(look(trail, trails));
    }

    int age(int map) {
        return days - look(map, sheets).day;
    }

    float knownShare() {
        if (trails.isEmpty()) {
            throw new ArithmeticException();
        }
        return (float) trails.stream().filter(t -> t.isGone == t.isTakenAsGone).count() / (float) trails.size();
    }

    double meanDanger() {
        if (boards.isEmpty()) {
            throw new ArithmeticException();
        }
        return (double) boards.stream().mapToInt(b -> dangerOf(b, false)).sum() / (double) boards.size();
    }

    boolean isSound() {
        return true;
    }

    private static <T> T look(int number, List<? extends T> list) {
        if (number < 0 || number >= list.size()) {
            throw new IndexOutOfBoundsException();
        }
        return list.get(number);
    }

    /** The minutes by the trails from the one fork, spread as water does; null if there is no way. */
    private Integer way(int from, int to, boolean isTrue) {
        Map<Integer, Integer> best = new HashMap<>();
        List<Integer> wet = new ArrayList<>();
        best.put(from, 0);
        wet.add(from);
        while (!wet.isEmpty()) {
            int fork = wet.remove(0);
            for (Trail trail : trails) {
                if (!trail.gone(isTrue) && (trail.from == fork || trail.to == fork)) {
                    int next = trail.from == fork ? trail.to : trail.from;
                    int minutes = best.get(fork) + (trail.from == fork ? trail.forth : trail.back);
                    if (!best.containsKey(next) || best.get(next) > minutes) {
                        best.put(next, minutes);
                        wet.add(next);
                    }
                }
            }
        }
        return best.get(to);
    }

    private Trail first(int from, int to) {
        if (from == to) {
            return null;
        }
        Trail best = null;
        int least = Integer.MAX_VALUE;
        for (Trail trail : trails) {
            if (!trail.isTakenAsGone && (trail.from == from || trail.to == from)) {
                Integer minutes = by(trail, from, to, false);
                if (minutes != null && minutes < least) {
                    best = trail;
                    least = minutes;
                }
            }
        }
        return best;
    }

    private Integer by(Trail trail, int from, int to, boolean isTrue) {
        boolean isForth = trail.from == from;
        Integer rest = way(isForth ? trail.to : trail.from, to, isTrue);
        return rest == null ? null : Integer.valueOf(rest + (isForth ? trail.forth : trail.back));
    }

    private int dangerOf(Board board, boolean isTrue) {
        if (board.trail.gone(isTrue)) {
            return 1000;
        }
        Integer minutes = by(board.trail, board.fork, board.place, isTrue);
        if (minutes == null) {
            return 1000;
        }
        int more = minutes - board.told;
        return more >= 30 ? Math.min(999, more) : 0;
    }

    private void carve(Board board) {
        board.trail = first(board.fork, board.place);
        board.told = (int) Math.ceil(way(board.fork, board.place, false) / 5.0) * 5;
        board.isCovered = false;
        wood--;
    }

    private void task(char kind, int number, int danger) {
        Task task = new Task();
        task.kind = kind;
        task.number = number;
        task.danger = danger;
        tasks.add(task);
    }

    private boolean canBeDone(Task task) {
        switch (task.kind) {
            case 'c':
                return !boards.get(task.number).isCovered;
            case 'u':
                return boards.get(task.number).isCovered;
            case 'm':
                return trails.get(task.number).isTakenAsGone;
            default:
                Board board = boards.get(task.number);
                Integer way = way(board.fork, board.place, false);
                return wood > 0 && way != null && way <= 300;
        }
    }

    private int where(Task task) {
        return task.kind == 'm' ? trails.get(task.number).from : boards.get(task.number).fork;
    }

    private static int effort(Task task) {
        return task.kind == 'm' ? 200 : task.kind == 'r' ? 30 : 10;
    }

    private boolean isInTime(Ranger ranger, Task task) {
        Integer way = way(ranger.fork, where(task), false);
        return way != null && way + effort(task) <= ranger.left;
    }

    private Task choice(Ranger ranger) {
        return tasks.stream()
            .filter(t -> t.ranger < 0)
            .filter(t -> t.kind != 'r' || ranger.tools == 1 || ranger.tools == 3)
            .filter(t -> t.kind != 'm' || ranger.tools == 2 || ranger.tools == 3)
            .filter(this::canBeDone)
            .filter(t -> isInTime(ranger, t))
            .reduce((a, b) -> b.danger > a.danger ? b : a)
            .orElse(null);
    }

    private boolean arrives(Ranger ranger, Task task) {
        while (ranger.fork != where(task)) {
            Trail trail = first(ranger.fork, where(task));
            see(trail);
            if (trail.isGone) {
                if (!isInTime(ranger, task)) {
                    return false;
                }
            } else {
                spend(ranger, ranger.fork == trail.from ? trail.forth : trail.back);
                ranger.fork = ranger.fork == trail.from ? trail.to : trail.from;
            }
        }
        return true;
    }

    private static void spend(Ranger ranger, int minutes) {
        ranger.left -= minutes;
        ranger.worked += minutes;
    }

    private void see(Trail trail) {
        trail.isTakenAsGone = trail.isGone;
        trail.reports.forEach((walker, isGone) ->
            trust[walker] = isGone == trail.isGone
                ? Math.min(100, trust[walker] + 10) : Math.max(0, trust[walker] - 20));
        trail.reports.clear();
    }

    private void work(Ranger ranger, Task task) {
        switch (task.kind) {
            case 'c':
                boards.get(task.number).isCovered = true;
                break;
            case 'u':
                boards.get(task.number).isCovered = false;
                break;
            case 'r':
                carve(boards.get(task.number));
                break;
            default:
                Trail trail = trails.get(task.number);
                see(trail);
                trail.isGone = false;
                trail.isTakenAsGone = false;
        }
        spend(ranger, effort(task));
        task.ranger = ranger.number;
    }
}
