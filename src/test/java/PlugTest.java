/** Promise 2. */
public final class PlugTest {
    public static void main(String[] args) {
        countsCables();
        joinsBuses();
        makesBothBusesDirty();
        refusesNodes();
        refusesPortsAndOneNode();
        refusesPortsInUse();
        Due.finish();
    }

    private static void countsCables() {
        SerialBus bus = new SerialBus();
        Due.is("first cable", bus.plug(0, 0, 11, 2), 1);
        Due.is("second cable of the same nodes", bus.plug(0, 2, 11, 0), 2);
        bus.unplug(11, 2);
        Due.is("a port is free again", bus.plug(0, 0, 5, 1), 2);
        Due.is("count(0)", bus.count(0), 2);
        Due.is("far end of 0 0", bus.unplug(0, 0), 5);
        Due.is("far end of 11 0", bus.unplug(11, 0), 0);
    }

    private static void joinsBuses() {
        SerialBus bus = new SerialBus();
        bus.plug(11, 0, 10, 0);
        bus.plug(3, 0, 9, 0);
        Due.is("two pairs", bus.count(1), 10);
        bus.plug(10, 1, 9, 1);
        Due.is("the pairs are one bus", bus.count(1), 9);
        bus.plug(3, 1, 11, 1);
        Due.is("a ring is one bus still", bus.count(1), 9);
    }

    private static void makesBothBusesDirty() {
        SerialBus bus = Stories.chain(3);
        bus.plug(5, 0, 6, 0);
        bus.plug(6, 1, 7, 0);
        bus.tick(1);
        Due.is("resets", bus.count(3), 8);
        bus.plug(2, 1, 5, 1);
        Due.is("number of 0", bus.about(0, Stories.NUMBER), -1);
        Due.is("number of 7", bus.about(7, Stories.NUMBER), -1);
        Due.is("number of 8", bus.about(8, Stories.NUMBER), 0);
        bus.tick(1);
        Due.is("one reset more", bus.count(3), 9);
    }

    private static void refusesNodes() {
        for (int no : Due.NO_NODES) {
            nothing("plug of a " + no, Due.NO_NODE, no, 0, 1, 2);
            nothing("plug to b " + no, Due.NO_NODE, 1, 2, no, 0);
            nothing("plug: no node before no port", Due.NO_NODE, 1, 3, no, -1);
            nothing("plug: no node before one node", Due.NO_NODE, no, 0, no, 1);
            nothing("plug: no node before port in use", Due.NO_NODE, 1, 0, no, 1);
        }
    }

    private static void refusesPortsAndOneNode() {
        int[] noPorts = {-1, 3, Integer.MIN_VALUE, Integer.MAX_VALUE};
        for (int no : noPorts) {
            nothing("plug of p " + no, Due.ARGUMENT, 7, no, 8, 1);
            nothing("plug to q " + no, Due.ARGUMENT, 7, 1, 8, no);
            nothing("plug: no port before port in use", Due.ARGUMENT, 1, 0, 7, no);
        }
        nothing("plug of a node to itself", Due.ARGUMENT, 7, 0, 7, 1);
        nothing("plug of a port to itself", Due.ARGUMENT, 7, 0, 7, 0);
        nothing("plug: one node before port in use", Due.ARGUMENT, 1, 0, 1, 2);
    }

    private static void refusesPortsInUse() {
        nothing("plug: a's port is not free", Due.STATE, 1, 0, 7, 0);
        nothing("plug: b's port is not free", Due.STATE, 7, 0, 1, 1);
        nothing("plug: both are not free", Due.STATE, 0, 1, 1, 0);
    }

    private static void nothing(
            String what, Class<? extends RuntimeException> due, int a, int p, int b, int q) {
        Due.failsAndChangesNothing(what, due, Stories::mixed, bus -> bus.plug(a, p, b, q));
    }
}
