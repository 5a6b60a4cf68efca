/** Promise 3. */
public final class UnplugTest {
    public static void main(String[] args) {
        answersTheOtherEnd();
        partsTheBus();
        leavesOneBusOverAnotherCable();
        refuses();
        Due.finish();
    }

    private static void answersTheOtherEnd() {
        SerialBus bus = new SerialBus();
        bus.plug(4, 2, 9, 0);
        bus.plug(4, 0, 2, 1);
        Due.is("from one end", bus.unplug(4, 2), 9);
        Due.is("from the other end", bus.unplug(2, 1), 4);
        Due.is("no cables", bus.count(0), 0);
        Due.is("buses", bus.count(1), 12);
        Due.fails("the other end is free, too", Due.STATE, () -> bus.unplug(9, 0));
        Due.fails("and so is this", Due.STATE, () -> bus.unplug(4, 0));
        Due.is("both can be used again", bus.plug(9, 0, 4, 0), 1);
    }

    private static void partsTheBus() {
        SerialBus bus = Stories.chain(5);
        bus.tick(1);
        Due.is("root of 0", bus.about(0, Stories.ROOT), 2);
        Due.is("unplug", bus.unplug(1, 1), 2);
        Due.is("buses", bus.count(1), 9);
        for (int node = 0; node < 5; node++) {
            Due.is("number of " + node, bus.about(node, Stories.NUMBER), -1);
        }
        bus.reset(0, 1, false, false);
        bus.tick(1);
        Due.is("two resets more", bus.count(3), 10);
        Due.is("root of 1", bus.about(1, Stories.ROOT), 0);
        Due.is("root of 2", bus.about(2, Stories.ROOT), 3);
    }

    private static void leavesOneBusOverAnotherCable() {
        SerialBus bus = new SerialBus();
        bus.plug(0, 0, 1, 0);
        bus.plug(0, 1, 1, 1);
        bus.plug(1, 2, 2, 0);
        bus.tick(1);
        Due.is("looped", bus.count(7), 1);
        Due.is("unplug", bus.unplug(0, 1), 1);
        Due.is("buses", bus.count(1), 10);
        Due.is("dirty now", bus.count(7), 0);
        bus.tick(1);
        Due.is("root", bus.about(0, Stories.ROOT), 1);
    }

    private static void refuses() {
        for (int no : Due.NO_NODES) {
            nothing("unplug of a " + no, Due.NO_NODE, no, 0);
            nothing("unplug: no node before no port", Due.NO_NODE, no, 3);
        }
        int[] noPorts = {-1, 3, Integer.MIN_VALUE, Integer.MAX_VALUE};
        for (int no : noPorts) {
            nothing("unplug of p " + no, Due.ARGUMENT, 1, no);
        }
        nothing("unplug of a free port", Due.STATE, 1, 2);
        nothing("unplug at a node without cables", Due.STATE, 10, 0);
    }

    private static void nothing(String what, Class<? extends RuntimeException> due, int a, int p) {
        Due.failsAndChangesNothing(what, due, Stories::mixed, bus -> bus.unplug(a, p));
    }
}
