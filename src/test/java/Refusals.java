import java.util.ArrayList;
import java.util.List;
import java.util.function.Consumer;
import java.util.function.Supplier;

/** Calls that an office refuses, one behind the other, and that have changed nothing then. */
final class Refusals {
    private final Checks checks;
    private final Supplier<WayMarker> made;
    private final WayMarker x;
    private final List<Consumer<WayMarker>> calls = new ArrayList<>();

    Refusals(Checks checks, Supplier<WayMarker> made) {
        this.checks = checks;
        this.made = made;
        this.x = made.get();
    }

    /** The call throws an exception of just this class. */
    Refusals due(Class<? extends RuntimeException> exception, String what, Consumer<WayMarker> call) {
        checks.refuses(what, exception, () -> call.accept(x));
        calls.add(call);
        return this;
    }

    /** All answers are those of an office that had none of these calls. */
    void changeNothing(String what) {
        List<String> due = Look.at(made, x -> { });
        List<String> got = Look.at(made, this::callAll);
        for (int at = 0; at < due.size(); at++) {
            if (!got.get(at).equals(due.get(at))) {
                checks.yes(what + ": answer " + at + " is " + got.get(at) + " and not " + due.get(at), false);
            }
        }
        checks.same(what + ": answers", got.size(), due.size());
    }

    private void callAll(WayMarker office) {
        for (Consumer<WayMarker> call : calls) {
            try {
                call.accept(office);
            } catch (RuntimeException e) {
                // What it throws has been checked when the call was told.
                continue;
            }
        }
    }
}
