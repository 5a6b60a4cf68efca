/** The terms TREE and NUMBERS. */
public final class TreeTest {
    public static void main(String[] args) {
        oneNodeAlone();
        leavesAskAsTheRoundBegins();
        everyNodeAsksOverEveryPort();
        numbersGoByPorts();
        numbersOfADeepTree();
        numbersOfTheLongestChain();
        sameBitsAreTakenOn();
        bitsGoRound();
        theFirstBitComesBehindTheLast();
        holdForFourRounds();
        bothHold();
        lastRound();
        managerHasTheGreatestNumber();
        everyNodeMayBeTheManager();
        loopedByCables();
        loopedByTwoCables();
        loopedByTheSameBits();
        Due.finish();
    }

    private static void told(SerialBus bus, int what, int... due) {
        for (int node = 0; node < due.length; node++) {
            Due.is("about(" + node + ", " + what + ")", bus.about(node, what), due[node]);
        }
    }

    /** "It is over if no CABLE is open", before the first ROUND. */
    private static void oneNodeAlone() {
        SerialBus bus = new SerialBus();
        bus.reset(7, 5, true, true);
        bus.tick(1);
        Due.is("number", bus.about(7, Stories.NUMBER), 0);
        Due.is("parent", bus.about(7, Stories.PARENT), -1);
        Due.is("root", bus.about(7, Stories.ROOT), 7);
        Due.is("manager", bus.about(7, Stories.MANAGER), 7);
        Due.is("place", bus.about(7, Stories.PLACE), 0);
        Due.is("manager of another", bus.about(8, Stories.MANAGER), -1);
    }

    private static void leavesAskAsTheRoundBegins() {
        SerialBus bus = Stories.three();
        told(bus, Stories.PARENT, 1, -1, 1);
        told(bus, Stories.ROOT, 1, 1, 1, 3);
        told(bus, Stories.PLACE, 0, 0, 0);
    }

    /** Both ends ASK in ROUND 1, so each takes one of its BITS. */
    private static void everyNodeAsksOverEveryPort() {
        for (int node = 0; node < 12; node++) {
            for (int port = 0; port < 3; port++) {
                int other = (node + 5) % 12;
                SerialBus bus = new SerialBus();
                bus.plug(node, port, other, 2 - port);
                bus.reset(other, 1, false, false);
                bus.tick(1);
                Due.is("parent of " + node, bus.about(node, Stories.PARENT), other);
                Due.is("place of " + node, bus.about(node, Stories.PLACE), 1);
                Due.is("place of " + other, bus.about(other, Stories.PLACE), 1);
            }
        }
    }

    private static void numbersGoByPorts() {
        SerialBus bus = new SerialBus();
        bus.plug(1, 2, 0, 2);
        bus.plug(1, 1, 3, 1);
        bus.plug(1, 0, 2, 0);
        bus.tick(1);
        told(bus, Stories.NUMBER, 2, 3, 0, 1);
    }

    /** 3 has 0 (with 5 below), 4 (with 6 and 7 below) and 1; all by PORTS out of order. */
    private static void numbersOfADeepTree() {
        SerialBus bus = new SerialBus();
        bus.plug(3, 0, 4, 2);
        bus.plug(4, 1, 6, 0);
        bus.plug(4, 0, 7, 2);
        bus.plug(3, 1, 1, 1);
        bus.plug(3, 2, 0, 0);
        bus.plug(0, 1, 5, 0);
        bus.tick(1);
        told(bus, Stories.PARENT, 3, 3, -1, -1, 3, 0, 4, 4);
        told(bus, Stories.NUMBER, 5, 3, 0, 6, 2, 4, 1, 0);
    }

    private static void numbersOfTheLongestChain() {
        SerialBus bus = Stories.chain(12);
        bus.reset(6, 1, false, false);
        bus.tick(1);
        Due.is("root in the middle", bus.about(0, Stories.ROOT), 6);
        told(bus, Stories.NUMBER, 0, 1, 2, 3, 4, 5, 11, 10, 9, 8, 7, 6);
        told(bus, Stories.PARENT, 1, 2, 3, 4, 5, 6, -1, 6, 7, 8, 9, 10);
    }

    private static void sameBitsAreTakenOn() {
        SerialBus bus = Stories.pair(3, 7);
        told(bus, Stories.PARENT, 1, -1);
        told(bus, Stories.NUMBER, 0, 1);
        told(bus, Stories.PLACE, 3, 3);
        SerialBus same = Stories.pair(0xABCD, 0xABCD);
        told(same, Stories.ROOT, -1, -1);
        told(same, Stories.PLACE, 8, 8);
    }

    private static void bitsGoRound() {
        SerialBus bus = Stories.pair(0x8000, 0);
        told(bus, Stories.ROOT, 0, 0);
        told(bus, Stories.PLACE, 0, 0);
        SerialBus on = Stories.pair(1, 2);
        told(on, Stories.ROOT, 0, 0);
        on.plug(0, 0, 2, 0);
        on.tick(1);
        told(on, Stories.PLACE, 1, 1, 0);
        on.unplug(0, 0);
        on.tick(1);
        told(on, Stories.ROOT, 1, 1, 2);
        told(on, Stories.PLACE, 2, 2, 0);
    }

    /** NODE 0 takes its last BIT and then its first, which alone is different. */
    private static void theFirstBitComesBehindTheLast() {
        SerialBus bus = Stories.pair(0x4001, 0x0001);
        told(bus, Stories.PLACE, 15, 15);
        bus.reset(1, 0, false, false);
        bus.tick(1);
        told(bus, Stories.ROOT, 0, 0);
        told(bus, Stories.PLACE, 1, 2);
    }

    /** "and no HOLD (or the ROUND is above 4)": 0 would be asked in ROUND 4, and in ROUND 5. */
    private static void holdForFourRounds() {
        SerialBus four = Stories.chain(5);
        four.reset(0, 0, true, false);
        four.reset(1, 1, false, false);
        four.tick(1);
        told(four, Stories.ROOT, 0, 0, 0, 0, 0);
        told(four, Stories.PLACE, 0, 0, 0, 0, 0);
        SerialBus five = Stories.chain(6);
        five.reset(0, 0, true, false);
        five.reset(1, 1, false, false);
        five.tick(1);
        told(five, Stories.ROOT, 1, 1, 1, 1, 1, 1);
        told(five, Stories.PLACE, 1, 1, 0, 0, 0, 0);
    }

    private static void bothHold() {
        SerialBus bus = Stories.chain(2);
        bus.reset(0, 0, true, false);
        bus.reset(1, 0, true, false);
        bus.tick(1);
        told(bus, Stories.ROOT, -1, -1);
        told(bus, Stories.PLACE, 4, 4);
    }

    /**
     * "or after 24 ROUNDS": the middle of a chain of 12, its ends with HOLD, takes BITS in ROUNDS 10
     * to 24.
     */
    private static SerialBus slowChain(int bits) {
        SerialBus bus = Stories.chain(12);
        bus.reset(0, 0, true, false);
        bus.reset(11, 0, true, false);
        bus.reset(5, bits, false, false);
        bus.tick(1);
        return bus;
    }

    private static void lastRound() {
        SerialBus inTime = slowChain(1 << 14);
        Due.is("round 24: root", inTime.about(11, Stories.ROOT), 5);
        Due.is("round 24: place", inTime.about(5, Stories.PLACE), 15);
        Due.is("round 24: looped", inTime.count(7), 0);
        SerialBus tooLate = slowChain(1 << 15);
        Due.is("round 25: root", tooLate.about(11, Stories.ROOT), -1);
        Due.is("round 25: place", tooLate.about(5, Stories.PLACE), 15);
        Due.is("round 25: looped", tooLate.count(7), 1);
        for (int node = 0; node < 12; node++) {
            Due.is("no parent", tooLate.about(node, Stories.PARENT), -1);
            Due.is("no number", tooLate.about(node, Stories.NUMBER), -1);
        }
    }

    private static void managerHasTheGreatestNumber() {
        SerialBus bus = Stories.chain(3);
        bus.reset(0, 0, false, true);
        bus.reset(2, 0, false, true);
        bus.tick(1);
        told(bus, Stories.MANAGER, 2, 2, 2, -1);
        bus.reset(1, 0, false, true);
        bus.tick(1);
        told(bus, Stories.MANAGER, 1, 1, 1, -1);
        SerialBus turned = new SerialBus();
        turned.plug(1, 0, 2, 0);
        turned.plug(1, 1, 0, 0);
        turned.reset(0, 0, false, true);
        turned.reset(2, 0, false, true);
        turned.tick(1);
        told(turned, Stories.MANAGER, 0, 0, 0, -1);
    }

    private static void everyNodeMayBeTheManager() {
        for (int manager = 0; manager < 12; manager++) {
            SerialBus bus = Stories.chain(12);
            bus.reset(6, 1, false, false);
            bus.reset(manager, manager == 6 ? 1 : 0, false, true);
            bus.tick(1);
            for (int node = 0; node < 12; node++) {
                Due.is("manager of " + node, bus.about(node, Stories.MANAGER), manager);
            }
        }
    }

    /** Two or three CABLES between two NODES: neither has "exactly one open CABLE". */
    private static void loopedByTwoCables() {
        SerialBus bus = Stories.chain(2);
        bus.plug(0, 0, 1, 1);
        bus.reset(0, 1, false, true);
        bus.tick(1);
        Due.is("two cables: looped", bus.count(7), 1);
        told(bus, Stories.ROOT, -1, -1);
        told(bus, Stories.PLACE, 0, 0);
        bus.plug(0, 2, 1, 2);
        bus.tick(1);
        Due.is("three cables: looped", bus.count(7), 1);
        bus.unplug(0, 2);
        bus.unplug(0, 1);
        bus.tick(1);
        Due.is("one cable: not looped", bus.count(7), 0);
        told(bus, Stories.ROOT, 0, 0);
        told(bus, Stories.MANAGER, 0, 0);
    }

    /** The place goes on from RESET to RESET, 24 further in each; other BITS end it. */
    private static void loopedByTheSameBits() {
        SerialBus bus = Stories.pair(0x1234, 0x1234);
        told(bus, Stories.PLACE, 8, 8);
        bus.plug(1, 2, 5, 0);
        bus.unplug(1, 2);
        bus.tick(1);
        Due.is("looped again", bus.count(7), 1);
        told(bus, Stories.PLACE, 0, 0);
        bus.reset(1, 0x1235, false, false);
        bus.tick(1);
        Due.is("not looped", bus.count(7), 0);
        told(bus, Stories.ROOT, 1, 1);
        told(bus, Stories.PLACE, 1, 1);
    }

    private static void loopedByCables() {
        SerialBus ring = Stories.chain(3);
        ring.plug(2, 1, 0, 0);
        ring.plug(2, 2, 3, 0);
        ring.reset(3, 0, false, true);
        ring.tick(1);
        told(ring, Stories.PARENT, -1, -1, -1, -1);
        told(ring, Stories.ROOT, -1, -1, -1, -1);
        told(ring, Stories.NUMBER, -1, -1, -1, -1);
        told(ring, Stories.MANAGER, -1, -1, -1, -1);
        told(ring, Stories.PLACE, 0, 0, 0, 0);
        ring.unplug(0, 0);
        ring.reset(1, 1, false, false);
        ring.tick(1);
        told(ring, Stories.MANAGER, 3, 3, 3, 3);
        Due.is("not looped any more", ring.count(7), 0);
    }
}
