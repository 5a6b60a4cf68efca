/** Promise 2. */
public final class PlugTest {
    private static final int[] NO_PORTS = Due.outside(0, 2);

    public static void main(String[] args) {
        countsCables();
        joinsEveryPort();
        joinsTheSameNodesThreeTimes();
        joinsBuses();
        joinsOverAllOthers();
        makesBothBusesDirty();
        eighteenCablesAreAll();
        refusesPorts();
        refusesOneNode();
        refusesPortsInUse();
        refusesInOrder();
        Due.finish();
    }

    private static void countsCables() {
        SerialBus bus = new SerialBus();
        Due.is("first cable", bus.plug(0, 0, 11, 2), 1);
        Due.is("second cable of the same nodes", bus.plug(0, 2, 11, 0), 2);
        bus.unplug(11, 2);
        Due.is("a port is free again", bus.plug(0, 0, 5, 1), 2);
        Due.is("count(0)", bus.count(0), 2);
        Due.is("far end of 0 0", bus.unplug(0, 0), 5);
        Due.is("far end of 11 0", bus.unplug(11, 0), 0);
    }

    /** "PORTS 0 .. 2": each of them at each end, and no other PORT is taken by it. */
    private static void joinsEveryPort() {
        for (int p = 0; p < 3; p++) {
            for (int q = 0; q < 3; q++) {
                SerialBus bus = new SerialBus();
                Due.is("plug of port " + p + " to port " + q, bus.plug(3, p, 8, q), 1);
                Due.is("next to port " + p, bus.plug(3, (p + 1) % 3, 8, (q + 1) % 3), 2);
                Due.is("far end of port " + q, bus.unplug(8, q), 3);
                Due.is("far end next to port " + p, bus.unplug(3, (p + 1) % 3), 8);
            }
        }
    }

    private static void joinsTheSameNodesThreeTimes() {
        SerialBus bus = new SerialBus();
        for (int port = 0; port < 3; port++) {
            Due.is("cables of 2 and 7", bus.plug(2, port, 7, 2 - port), port + 1);
            Due.is("they are one bus", bus.count(1), 11);
        }
    }

    private static void joinsBuses() {
        SerialBus bus = new SerialBus();
        bus.plug(11, 0, 10, 0);
        bus.plug(3, 0, 9, 0);
        Due.is("two pairs", bus.count(1), 10);
        bus.plug(10, 1, 9, 1);
        Due.is("the pairs are one bus", bus.count(1), 9);
        bus.plug(3, 1, 11, 1);
        Due.is("a ring is one bus still", bus.count(1), 9);
    }

    /** "directly or over others": eleven CABLES lie between the ends, in whatever order NODES come. */
    private static void joinsOverAllOthers() {
        int[] steps = {1, 5, 7, 11};
        for (int step : steps) {
            for (int first = 0; first < 12; first++) {
                SerialBus bus = new SerialBus();
                for (int i = 0; i < 11; i++) {
                    bus.plug((first + i * step) % 12, 2, (first + (i + 1) * step) % 12, 0);
                }
                Due.is("one bus from " + first + " by " + step, bus.count(1), 1);
                bus.reset(first, 0, true, false);
                bus.tick(1);
                Due.is("one reset", bus.count(3), 1);
            }
        }
    }

    private static void makesBothBusesDirty() {
        SerialBus bus = Stories.chain(3);
        bus.plug(5, 0, 6, 0);
        bus.plug(6, 1, 7, 0);
        bus.tick(1);
        Due.is("resets", bus.count(3), 8);
        bus.plug(2, 1, 5, 1);
        Due.is("number of 0", bus.about(0, Stories.NUMBER), -1);
        Due.is("number of 7", bus.about(7, Stories.NUMBER), -1);
        Due.is("number of 8", bus.about(8, Stories.NUMBER), 0);
        bus.tick(1);
        Due.is("one reset more", bus.count(3), 9);
    }

    /** Every NODE's PORTS to those of the NODE six further: no PORT is free any more. */
    private static void eighteen(SerialBus bus) {
        for (int node = 0; node < 6; node++) {
            for (int port = 0; port < 3; port++) {
                bus.plug(node, port, node + 6, port);
            }
        }
    }

    private static void eighteenCablesAreAll() {
        SerialBus bus = new SerialBus();
        eighteen(bus);
        Due.is("cables", bus.count(0), 18);
        Due.is("buses", bus.count(1), 6);
        for (int node = 0; node < 11; node++) {
            int a = node;
            for (int port = 0; port < 3; port++) {
                int p = port;
                Due.fails("a nineteenth", Due.STATE, () -> bus.plug(a, p, a + 1, 2 - p));
            }
        }
        Due.is("still", bus.count(0), 18);
        Due.failsAndChangesNothing("all in use", Due.STATE, PlugTest::eighteen, b -> b.plug(0, 2, 11, 2));
        bus.unplug(4, 1);
        Due.is("the two that are free again", bus.plug(10, 1, 4, 1), 18);
    }

    /** "IllegalArgumentException: a PORT is none". */
    private static void refusesPorts() {
        for (int no : NO_PORTS) {
            nothing("plug of p " + no, Due.ARGUMENT, 7, no, 8, 1);
            nothing("plug to q " + no, Due.ARGUMENT, 7, 1, 8, no);
            nothing("plug of p and q " + no, Due.ARGUMENT, 7, no, 8, no);
            nothing("plug of p " + no + " of the first node", Due.ARGUMENT, 0, no, 11, 2);
            nothing("plug to q " + no + " of the last node", Due.ARGUMENT, 0, 0, 11, no);
        }
    }

    /** "IllegalArgumentException: .. or a is b". */
    private static void refusesOneNode() {
        for (int node = 0; node < 12; node++) {
            nothing("plug of a node to itself", Due.ARGUMENT, node, 2, node, 1);
            nothing("plug of a port to itself", Due.ARGUMENT, node, 2, node, 2);
        }
    }

    /** "IllegalStateException: a PORT is not free." */
    private static void refusesPortsInUse() {
        nothing("plug: a's port is not free", Due.STATE, 1, 0, 7, 0);
        nothing("plug: b's port is not free", Due.STATE, 7, 0, 1, 1);
        nothing("plug: both are not free", Due.STATE, 0, 1, 4, 0);
        nothing("plug: the same cable", Due.STATE, 0, 1, 1, 0);
        nothing("plug: the same cable, turned", Due.STATE, 1, 0, 0, 1);
    }

    /** Node before argument before state. NodeNumbersTest has the first. */
    private static void refusesInOrder() {
        for (int no : NO_PORTS) {
            nothing("plug: no port q, p in use", Due.ARGUMENT, 1, 0, 7, no);
            nothing("plug: no port p, q in use", Due.ARGUMENT, 7, no, 1, 0);
        }
        nothing("plug: one node, p in use", Due.ARGUMENT, 1, 0, 1, 2);
        nothing("plug: one node, q in use", Due.ARGUMENT, 1, 2, 1, 0);
        nothing("plug: one node, both in use", Due.ARGUMENT, 1, 0, 1, 1);
    }

    private static void nothing(
            String what, Class<? extends RuntimeException> due, int a, int p, int b, int q) {
        Due.failsAndChangesNothing(what, due, Stories::mixed, bus -> bus.plug(a, p, b, q));
    }
}
