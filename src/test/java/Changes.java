import java.util.ArrayList;
import java.util.Arrays;
import java.util.List;
import java.util.function.Consumer;

/** Compares what a step changes behind a story with what is due. */
final class Changes {
    private Changes() {}

    static SerialBus after(Consumer<SerialBus> story) {
        SerialBus bus = new SerialBus();
        story.accept(bus);
        return bus;
    }

    /** So much is told otherwise at once, and what is hidden stays. */
    static void only(
            String what, Consumer<SerialBus> story, Consumer<SerialBus> step, String... due) {
        told(what, story, step, due);
        hidden(what, story, step);
    }

    static void told(
            String what, Consumer<SerialBus> story, Consumer<SerialBus> step, String... due) {
        List<String> changes = Due.changes(after(story), after(story.andThen(step)));
        Due.is(what + ": told", changes, Arrays.asList(due));
    }

    static void hidden(
            String what, Consumer<SerialBus> story, Consumer<SerialBus> step, String... due) {
        List<String> changes = new ArrayList<>(Hidden.of(story.andThen(step)));
        changes.removeAll(Hidden.of(story));
        Due.is(what + ": hidden", changes, Arrays.asList(due));
    }
}
