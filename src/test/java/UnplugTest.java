/** Promise 3. */
public final class UnplugTest {
    public static void main(String[] args) {
        answersTheOtherEnd();
        freesEveryPort();
        partsTheBus();
        leavesOneBusOverAnotherCable();
        theLastCableLeavesNodesAlone();
        refusesPorts();
        refusesFreePorts();
        Due.finish();
    }

    private static void answersTheOtherEnd() {
        SerialBus bus = new SerialBus();
        bus.plug(4, 2, 9, 0);
        bus.plug(4, 0, 2, 1);
        Due.is("from one end", bus.unplug(4, 2), 9);
        Due.is("from the other end", bus.unplug(2, 1), 4);
        Due.is("no cables", bus.count(0), 0);
        Due.is("buses", bus.count(1), 12);
        Due.fails("the other end is free, too", Due.STATE, () -> bus.unplug(9, 0));
        Due.fails("and so is this", Due.STATE, () -> bus.unplug(4, 0));
        Due.is("both can be used again", bus.plug(9, 0, 4, 0), 1);
    }

    /** "PORT p": 0 .. 2, at the first NODE and at the last; the other CABLES stay. */
    private static void freesEveryPort() {
        for (int port = 0; port < 3; port++) {
            for (int end = 0; end < 12; end += 11) {
                SerialBus bus = new SerialBus();
                for (int p = 0; p < 3; p++) {
                    bus.plug(0, p, 11, p);
                }
                Due.is("unplug at " + end, bus.unplug(end, port), 11 - end);
                Due.is("two are left", bus.count(0), 2);
                Due.is("the same port again", bus.plug(end, port, 11 - end, port), 3);
            }
        }
    }

    private static void partsTheBus() {
        SerialBus bus = Stories.chain(5);
        bus.tick(1);
        Due.is("root of 0", bus.about(0, Stories.ROOT), 2);
        Due.is("unplug", bus.unplug(1, 1), 2);
        Due.is("buses", bus.count(1), 9);
        for (int node = 0; node < 5; node++) {
            Due.is("number of " + node, bus.about(node, Stories.NUMBER), -1);
        }
        bus.reset(0, 1, false, false);
        bus.tick(1);
        Due.is("two resets more", bus.count(3), 10);
        Due.is("root of 1", bus.about(1, Stories.ROOT), 0);
        Due.is("root of 2", bus.about(2, Stories.ROOT), 3);
    }

    private static void leavesOneBusOverAnotherCable() {
        SerialBus bus = new SerialBus();
        bus.plug(0, 0, 1, 0);
        bus.plug(0, 1, 1, 1);
        bus.plug(1, 2, 2, 0);
        bus.tick(1);
        Due.is("looped", bus.count(7), 1);
        Due.is("unplug", bus.unplug(0, 1), 1);
        Due.is("buses", bus.count(1), 10);
        Due.is("dirty now", bus.count(7), 0);
        bus.tick(1);
        Due.is("root", bus.about(0, Stories.ROOT), 1);
    }

    /** "a NODE without CABLES is one alone", also if it had some. */
    private static void theLastCableLeavesNodesAlone() {
        SerialBus bus = Stories.pair(1, 0);
        Due.is("one bus", bus.count(1), 11);
        bus.unplug(1, 0);
        Due.is("cables", bus.count(0), 0);
        Due.is("buses", bus.count(1), 12);
        bus.tick(1);
        Due.is("both are reset", bus.count(3), 13);
        Due.is("root of 0", bus.about(0, Stories.ROOT), 0);
        Due.is("root of 1", bus.about(1, Stories.ROOT), 1);
        Due.is("parent of 1", bus.about(1, Stories.PARENT), -1);
        Due.is("number of 1", bus.about(1, Stories.NUMBER), 0);
    }

    /** "IllegalArgumentException: no such PORT." */
    private static void refusesPorts() {
        for (int no : Due.outside(0, 2)) {
            nothing("unplug of p " + no, Due.ARGUMENT, 1, no);
            nothing("unplug of p " + no + " of a node without cables", Due.ARGUMENT, 10, no);
            nothing("unplug of p " + no + " of the first node", Due.ARGUMENT, 0, no);
            nothing("unplug of p " + no + " of the last node", Due.ARGUMENT, 11, no);
        }
    }

    /** "IllegalStateException: it is free." */
    private static void refusesFreePorts() {
        nothing("unplug of a free port", Due.STATE, 1, 2);
        nothing("unplug at a node without cables", Due.STATE, 10, 0);
        Due.failsAndChangesNothing("twice", Due.STATE, UnplugTest::unplugged, bus -> bus.unplug(1, 0));
        Due.failsAndChangesNothing("both ends", Due.STATE, UnplugTest::unplugged, bus -> bus.unplug(0, 1));
    }

    private static void unplugged(SerialBus bus) {
        Stories.mixed(bus);
        bus.unplug(1, 0);
    }

    private static void nothing(String what, Class<? extends RuntimeException> due, int a, int p) {
        Due.failsAndChangesNothing(what, due, Stories::mixed, bus -> bus.unplug(a, p));
    }
}
