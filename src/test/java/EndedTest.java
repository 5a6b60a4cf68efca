/** Promise 9. */
public final class EndedTest {
    public static void main(String[] args) {
        tellsTheEnds();
        tellsAgainAndAgain();
        refuses();
        Due.finish();
    }

    private static void tellsTheEnds() {
        SerialBus bus = Stories.three();
        bus.time(4);
        bus.ask(0, 2, Stories.READ, 0, 0, 0);
        Due.is("it waits", bus.ended(0, 0), -1);
        bus.tick(1);
        Due.is("it waits for the answer", bus.ended(0, 0), -1);
        bus.tick(1);
        Due.is("done", bus.ended(0, 0), 0);
        bus.ask(2, 2, Stories.READ, 0, 0, 0);
        bus.reset(1, 0, false, false);
        bus.tick(1);
        Due.is("reset", bus.ended(2, 0), 1);
        Due.is("done stays", bus.ended(0, 0), 0);
        bus.ask(1, 3, Stories.READ, 0, 0, 0);
        bus.tick(1);
        Due.is("nobody", bus.ended(1, 0), 3);
        for (int label = 0; label < 4; label++) {
            bus.ask(2, 2, Stories.READ, 0, 0, 0);
        }
        bus.tick(4);
        Due.is("late", bus.ended(2, 3), 4);
        Due.is("busy", busy().ended(1, 1), 2);
    }

    /** NODE 0's QUEUE stays full, by REQUESTS to itself, until NODE 1 was BUSY four times. */
    private static SerialBus busy() {
        SerialBus bus = Stories.three();
        bus.time(60);
        for (int label = 0; label < 4; label++) {
            bus.ask(0, 0, Stories.READ, 0, 0, 0);
        }
        for (int label = 0; label < 2; label++) {
            bus.ask(1, 0, Stories.READ, 0, 0, 0);
            bus.ask(2, 0, Stories.READ, 0, 0, 0);
        }
        bus.tick(17);
        return bus;
    }

    private static void tellsAgainAndAgain() {
        SerialBus bus = new SerialBus();
        bus.ask(3, 3, Stories.READ, 0, 0, 0);
        bus.tick(1);
        Due.is("once", bus.ended(3, 0), 1);
        bus.tick(50);
        Due.is("twice", bus.ended(3, 0), 1);
        bus.reset(3, 0, false, false);
        bus.tick(1);
        Due.is("and after a reset", bus.ended(3, 0), 1);
    }

    private static void refuses() {
        for (int no : Due.NO_NODES) {
            nothing("ended of " + no, Due.NO_NODE, no, 0);
            nothing("ended: no node before no label", Due.NO_NODE, no, 4);
        }
        int[] noLabels = {-1, 4, Integer.MIN_VALUE, Integer.MAX_VALUE};
        for (int no : noLabels) {
            nothing("ended at label " + no, Due.ARGUMENT, 1, no);
        }
        nothing("ended of a free label", Due.STATE, 1, 3);
        nothing("ended of a node that never asked", Due.STATE, 10, 0);
    }

    private static void nothing(String what, Class<? extends RuntimeException> due, int a, int l) {
        Due.failsAndChangesNothing(what, due, Stories::mixed, bus -> bus.ended(a, l));
    }
}
