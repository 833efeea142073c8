import java.util.ArrayList;
import java.util.List;
import java.util.function.Consumer;
import java.util.function.Function;
import java.util.function.Supplier;

/** Every answer that an office gives in one state, and what it answers to the calls that change it from there on. */
final class Look {
    // So that no object is used for more than 512 calls, each part of the questions has an object of its own.
    private static final int PART = 100;
    private static final List<Function<WayMarker, Object>> QUESTIONS = questions();

    private Look() {
    }

    /** Looks at offices that are made so, and have had some calls then. */
    static List<String> at(Supplier<WayMarker> made, Consumer<WayMarker> calls) {
        List<String> answers = new ArrayList<>();
        for (int from = 0; from < QUESTIONS.size(); from += PART) {
            WayMarker x = made.get();
            calls.accept(x);
            int to = Math.min(from + PART, QUESTIONS.size());
            for (Function<WayMarker, Object> question : QUESTIONS.subList(from, to)) {
                answers.add(answer(x, question));
            }
        }
        answers.addAll(later(made, calls));
        answers.addAll(boards(made, calls));
        return answers;
    }

    private static String answer(WayMarker x, Function<WayMarker, Object> question) {
        try {
            return String.valueOf(question.apply(x));
        } catch (RuntimeException e) {
            return e.getClass().getName();
        }
    }

    private static List<Function<WayMarker, Object>> questions() {
        List<Function<WayMarker, Object>> all = new ArrayList<>();
        for (int number = 0; number <= 40; number++) {
            int n = number;
            all.add(x -> (int) x.kindOf(n));
            all.add(x -> x.numberOf(n));
            all.add(x -> x.doneBy(n));
            all.add(x -> x.trailOf(n));
            all.add(x -> x.told(n));
            all.add(x -> x.isCovered(n));
            all.add(x -> x.danger(n, true));
            all.add(x -> x.danger(n, false));
            all.add(x -> x.isGone(n, true));
            all.add(x -> x.isGone(n, false));
            all.add(x -> x.reports(n));
            all.add(x -> x.trust(n));
            all.add(x -> x.forkOf(n));
            all.add(x -> x.worked(n));
            all.add(x -> x.age(n));
        }
        for (int from = 0; from <= 16; from++) {
            for (int to = 0; to <= 16; to++) {
                int a = from;
                int b = to;
                all.add(x -> x.minutes(a, b, true));
                all.add(x -> x.minutes(a, b, false));
                all.add(x -> x.firstTrail(a, b));
            }
        }
        for (int map = 0; map <= 10; map++) {
            for (int trail = 0; trail <= 24; trail++) {
                int a = map;
                int b = trail;
                all.add(x -> x.shows(a, b));
            }
        }
        all.add(x -> x.unsafe(true));
        all.add(x -> x.unsafe(false));
        all.add(WayMarker::openTasks);
        all.add(WayMarker::knownShare);
        all.add(WayMarker::meanDanger);
        all.add(WayMarker::isSound);
        return all;
    }

    /** What is not asked but shows itself later: the wood, the room, the choices of the rangers. */
    private static List<String> later(Supplier<WayMarker> made, Consumer<WayMarker> calls) {
        WayMarker x = made.get();
        calls.accept(x);
        List<String> answers = new ArrayList<>();
        answers.add(answer(x, y -> y.addWood(1)));
        answers.add(answer(x, y -> y.addFork(true)));
        answers.add(answer(x, y -> y.addTrail(0, 1, 7, 8)));
        answers.add(answer(x, y -> y.addRanger(0, 3)));
        answers.add(answer(x, y -> y.addTask('m', 0, 5)));
        answers.add(answer(x, y -> y.addTask('r', 0, 500)));
        answers.add(answer(x, WayMarker::plan));
        answers.add(answer(x, WayMarker::print));
        for (int trail = 0; trail < 24; trail++) {
            int t = trail;
            answers.add(answer(x, y -> y.report(7, t, true)));
        }
        for (int day = 0; day < 3; day++) {
            answers.add(answer(x, WayMarker::day));
        }
        for (int number = 0; number < 10; number++) {
            int n = number;
            answers.add(answer(x, y -> y.trust(n)));
            answers.add(answer(x, y -> y.forkOf(n)));
            answers.add(answer(x, y -> y.worked(n)));
            answers.add(answer(x, y -> y.age(n)));
        }
        answers.add(answer(x, WayMarker::openTasks));
        answers.add(answer(x, y -> y.addWood(1)));
        return answers;
    }

    /** Which forks are places is to be seen by boards alone. */
    private static List<String> boards(Supplier<WayMarker> made, Consumer<WayMarker> calls) {
        WayMarker x = made.get();
        calls.accept(x);
        List<String> answers = new ArrayList<>();
        for (int place = 0; place <= 16; place++) {
            int p = place;
            answers.add(answer(x, y -> y.cut((p + 1) % 16, p)));
        }
        return answers;
    }
}
