/** Promise 13. */
public final class CountTest {
    public static void main(String[] args) {
        cablesAndBuses();
        clockAndResets();
        sentInSlots();
        usedTakenFromAll();
        sentInCycles();
        looped();
        elseNone();
        changesNothing();
        Due.finish();
    }

    private static void cablesAndBuses() {
        SerialBus bus = Stories.chain(12);
        Due.is("cables", bus.count(0), 11);
        Due.is("buses", bus.count(1), 1);
        bus.unplug(5, 1);
        Due.is("cables, one less", bus.count(0), 10);
        Due.is("buses, one more", bus.count(1), 2);
    }

    private static void clockAndResets() {
        SerialBus bus = Stories.chain(12);
        bus.reset(5, 1, false, false);
        bus.tick(50);
        Due.is("clock", bus.count(2), 50);
        Due.is("resets", bus.count(3), 1);
        bus.unplug(0, 1);
        bus.tick(1);
        Due.is("resets of both parts", bus.count(3), 3);
    }

    private static void sentInSlots() {
        SerialBus bus = Stories.three();
        bus.ask(0, 1, Stories.READ, 0, 0, 0);
        bus.ask(0, 9, Stories.READ, 0, 0, 0);
        int[] sent = {1, 2, 2, 3, 3};
        int[] taken = {0, 0, 1, 1, 1};
        for (int slot = 0; slot < sent.length; slot++) {
            bus.tick(1);
            Due.is("sent after slot " + slot, bus.count(4), sent[slot]);
            Due.is("used taken after slot " + slot, bus.count(6), taken[slot]);
        }
        Due.is("none in cycles", bus.count(5), 0);
    }

    /** "6: SLOTS in which USED was taken from all": two BUSES have two of them in one TICK. */
    private static void usedTakenFromAll() {
        SerialBus bus = new SerialBus();
        bus.tick(1);
        bus.ask(3, 3, Stories.READ, 0, 0, 0);
        bus.ask(8, 8, Stories.READ, 0, 0, 0);
        bus.tick(1);
        Due.is("sent", bus.count(6), 0);
        bus.tick(1);
        Due.is("taken", bus.count(6), 2);
        bus.tick(1);
        Due.is("answered", bus.count(6), 2);
        bus.tick(50);
        Due.is("no packets", bus.count(6), 2);
    }

    private static void sentInCycles() {
        SerialBus bus = Stories.threeManaged(0, 0);
        int slots = bus.count(4);
        Due.is("in slots so far", slots, 4);
        for (int node = 0; node < 3; node++) {
            bus.talk(node, node, 10);
        }
        bus.tick(1);
        Due.is("one a talker", bus.count(5), 3);
        Due.is("none in slots", bus.count(4), slots);
    }

    private static void looped() {
        SerialBus bus = new SerialBus();
        for (int node = 0; node < 6; node += 2) {
            bus.plug(node, 0, node + 1, 0);
            bus.plug(node, 1, node + 1, 1);
        }
        Due.is("not reset yet", bus.count(7), 0);
        bus.tick(1);
        Due.is("three looped", bus.count(7), 3);
        bus.reset(3, 0, false, false);
        Due.is("one is dirty", bus.count(7), 2);
        bus.tick(1);
        Due.is("three again", bus.count(7), 3);
        bus.plug(1, 2, 2, 2);
        Due.is("two are one, and dirty", bus.count(7), 1);
        bus.tick(1);
        Due.is("two", bus.count(7), 2);
    }

    /** "Else -1." */
    private static void elseNone() {
        SerialBus bus = new SerialBus();
        Stories.mixed(bus);
        for (int other : Due.outside(0, 7)) {
            Due.is("count(" + other + ")", bus.count(other), -1);
        }
        Due.is("count(9)", bus.count(9), -1);
        Due.is("count(7), the last", bus.count(7), 1);
    }

    private static void changesNothing() {
        Due.tellsAndChangesNothing("count", Stories::mixed, bus -> {
            for (int what = -1; what <= 8; what++) {
                bus.count(what);
            }
        });
    }
}
