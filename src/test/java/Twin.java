import java.lang.reflect.Method;
import java.util.ArrayList;
import java.util.List;
import java.util.Map;

/** An EventStore and a Model beside it: both get the same calls, and their answers must be the same. */
final class Twin {
    private static final Map<String, Method> OF_STORE = Story.methods(EventStore.class);
    private static final Map<String, Method> OF_MODEL = Story.methods(Model.class);

    private final EventStore store = new EventStore();
    private final Model model = new Model();
    private final List<String> told = new ArrayList<>();

    Model model() {
        return model;
    }

    int calls() {
        return told.size();
    }

    long call(String name, Object... arguments) {
        String call = name + List.of(arguments);
        try {
            long want = Story.number(OF_MODEL.get(name).invoke(model, arguments));
            long got = Story.number(OF_STORE.get(name).invoke(store, arguments));
            told.add(call + " " + got);
            Due.is(call, want, got);
            return got;
        } catch (ReflectiveOperationException e) {
            throw new IllegalStateException(call, e);
        }
    }

    /** Makes the calls of a run that is told as in a Story. */
    void goOn(String run) {
        for (Story.Step step : Story.steps(run)) {
            call(step.method().getName(), step.arguments());
        }
    }

    /** Prints the calls with what EventStore answered, for a run that went wrong. */
    void print() {
        told.forEach(System.out::println);
    }
}
