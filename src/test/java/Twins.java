import java.util.List;
import java.util.concurrent.Callable;
import java.util.function.Supplier;

/**
 * Two caravans made alike, on one of which a call has been made. Whatever is asked of them or done
 * with them afterwards must be the same, but for what the call may touch. They are made anew for each
 * thing that is tried, so that none of them is used for more than 512 calls.
 */
final class Twins {
    interface Ask {
        Object of(CaravanRoute x);
    }

    private final String call;
    private final Supplier<CaravanRoute> make;
    private final Ask ask;

    private Twins(String call, Supplier<CaravanRoute> make, Ask ask) {
        this.call = call;
        this.make = make;
        this.ask = ask;
    }

    /** The parts that the call may touch are "caravan", "undo", "slot 0", "slot 1", "buffer", "error" and "written". */
    static void areAlike(String call, Supplier<CaravanRoute> make, Ask ask, String... touched) {
        Twins twins = new Twins(call, make, ask);
        List<String> left = List.of(touched);
        if (!left.contains("caravan")) {
            twins.afterwards("the caravan", x -> Whole.caravan(x));
        }
        if (!left.contains("undo")) {
            twins.undoStepByStep();
        }
        for (int i = 0; i < 2; i++) {
            int slot = i;
            if (!left.contains("slot " + slot)) {
                twins.afterwards("restoreSnapshot(" + slot + ")", x -> tell(x, () -> x.restoreSnapshot(slot)));
            }
        }
        if (!left.contains("buffer")) {
            twins.afterwards("append", x -> Whole.outcome(() -> x.append(0, 0, 0, 0, 0)));
            twins.afterwards("load", x -> tell(x, () -> x.load()) + Whole.error(x));
        }
        if (!left.contains("error")) {
            twins.afterwards("the error", x -> Whole.error(x));
        }
        if (!left.contains("written")) {
            twins.afterwards("the written text", x -> Whole.written(x));
        }
    }

    private void undoStepByStep() {
        for (int i = 1; i <= 9; i++) {
            int times = i;
            afterwards(times + " times undo", x -> {
                for (int k = 1; k < times; k++) {
                    Whole.outcome(() -> x.undo());
                }
                return tell(x, () -> x.undo());
            });
        }
    }

    /** What a call answers and what the caravan is then; a refused one brings nothing new. */
    private static String tell(CaravanRoute x, Callable<?> body) {
        String answer = Whole.outcome(body);
        return answer.endsWith("Exception") ? answer : answer + "\n" + Whole.caravan(x);
    }

    private void afterwards(String what, Ask next) {
        CaravanRoute touched = make.get();
        Whole.outcome(() -> ask.of(touched));
        CaravanRoute untouched = make.get();
        Check.same(what + " after " + call, next.of(touched), next.of(untouched));
    }
}
