/** Runs of calls that several tests begin with. */
final class Stories {
    static final int NUMBER = 0;
    static final int PARENT = 1;
    static final int ROOT = 2;
    static final int MANAGER = 3;
    static final int PACKETS = 4;
    static final int HEARD = 5;
    static final int PLACE = 6;
    static final int WAITING = 7;
    static final int USED = 8;

    static final int READ = 0;
    static final int WRITE = 1;
    static final int SWAP = 2;

    static final int WAITS = -1;
    static final int DONE = 0;
    static final int RESET = 1;
    static final int BUSY = 2;
    static final int NOBODY = 3;
    static final int LATE = 4;

    private Stories() {}

    /** NODES 0 - 1 - .. - (n - 1), each PORT 1 joined to the next one's PORT 0. */
    static SerialBus chain(int n) {
        SerialBus bus = new SerialBus();
        for (int node = 0; node + 1 < n; node++) {
            bus.plug(node, 1, node + 1, 0);
        }
        return bus;
    }

    /** 0 - 1 with these BITS, after its RESET. */
    static SerialBus pair(int bits0, int bits1) {
        SerialBus bus = chain(2);
        bus.reset(0, bits0, false, false);
        bus.reset(1, bits1, false, false);
        bus.tick(1);
        return bus;
    }

    /** 0 - 1 - 2 after its RESET: the ROOT is 1, the NUMBERS of 0, 1, 2 are 0, 2, 1. */
    static SerialBus three() {
        SerialBus bus = chain(3);
        bus.tick(1);
        return bus;
    }

    /** As three(), with NODE 0 as MANAGER. */
    static SerialBus threeManaged() {
        SerialBus bus = chain(3);
        bus.reset(0, 0, false, true);
        bus.tick(1);
        return bus;
    }

    /** Gives the MANAGER, NODE 0, WORDS 6 and 7; the CLOCK shows 8 then. */
    static SerialBus threeManaged(int word6, int word7) {
        SerialBus bus = threeManaged();
        bus.ask(0, 0, WRITE, 6, 0, word6);
        bus.ask(0, 0, WRITE, 7, 0, word7);
        bus.tick(7);
        return bus;
    }

    /** Some of everything: PACKETS that wait, ends of several kinds, talkers, a LOOPED BUS. */
    static void mixed(SerialBus bus) {
        bus.plug(0, 1, 1, 0);
        bus.plug(1, 1, 2, 0);
        bus.plug(3, 0, 4, 0);
        bus.plug(5, 0, 6, 0);
        bus.plug(5, 1, 6, 1);
        bus.reset(0, 9, false, true);
        bus.reset(3, 2, true, false);
        bus.reset(4, 1, true, true);
        bus.talk(2, 3, 40);
        bus.talk(3, 31, 100);
        bus.tick(1);
        bus.ask(0, 0, WRITE, 6, 0, 20);
        bus.ask(0, 0, WRITE, 7, 0, 0);
        bus.ask(4, 4, WRITE, 6, 0, 0);
        bus.ask(4, 4, WRITE, 7, 0, 0);
        bus.tick(8);
        bus.time(5);
        bus.ask(1, 9, READ, 1, 0, 0);
        bus.ask(5, 6, READ, 0, 0, 0);
        bus.tick(5);
        bus.time(9);
        bus.ask(1, 2, SWAP, 2, 0, 17);
        bus.ask(1, 0, READ, 2, 0, 0);
        bus.ask(2, 1, READ, 3, 0, 0);
        bus.ask(5, 6, READ, 0, 0, 0);
        bus.tick(1);
        bus.ask(2, 0, WRITE, 4, 0, 44);
        bus.plug(8, 0, 9, 0);
    }

    /** As mixed(); all four LABELS of NODE 7, which is alone, wait. */
    static void allWait(SerialBus bus) {
        mixed(bus);
        for (int label = 0; label < 4; label++) {
            bus.ask(7, 7, WRITE, label, 0, 1);
        }
    }

    /** NODE 0's QUEUE is full: some REQUESTS of its own to itself, and ANSWERS to NODES 1 .. 3. */
    static void fullOfThree(SerialBus bus) {
        crowded(bus, 3, 3);
    }

    static void fullOfFour(SerialBus bus) {
        crowded(bus, 4, 2);
    }

    /**
     * A chain 0 - .. - 4 with 4 as ROOT: NODE 0 has these many own REQUESTS and, after as many
     * SLOTS, ANSWERS; it has not sent yet, as its NUMBER is the least.
     */
    static void crowded(SerialBus bus, int requests, int answers) {
        for (int node = 0; node < 4; node++) {
            bus.plug(node, 1, node + 1, 0);
        }
        bus.reset(4, 0, true, false);
        bus.tick(1);
        bus.time(60);
        for (int node = 1; node <= answers; node++) {
            bus.ask(node, 0, READ, 0, 0, 0);
        }
        for (int label = 0; label < requests; label++) {
            bus.ask(0, 0, WRITE, 0, 0, label);
        }
        if (answers > 0) {
            bus.tick(answers);
        }
    }

    /** NODE 0's LABELS 0 .. 3 are DONE with value 100, NOBODY, LATE, and wait. */
    static SerialBus fourEnds() {
        SerialBus bus = three();
        bus.ask(0, 2, READ, 6, 0, 0);
        bus.ask(0, 9, READ, 0, 0, 0);
        bus.time(2);
        bus.ask(0, 1, READ, 0, 0, 0);
        bus.time(60);
        bus.ask(0, 2, READ, 0, 0, 0);
        bus.tick(4);
        return bus;
    }

    /** NODE 1's LABEL 1 is BUSY: 0's QUEUE is full, by REQUESTS to itself, until the 4th time. */
    static SerialBus busy() {
        SerialBus bus = three();
        bus.time(60);
        for (int label = 0; label < 4; label++) {
            bus.ask(0, 0, READ, 0, 0, 0);
        }
        for (int label = 0; label < 2; label++) {
            bus.ask(1, 0, READ, 0, 0, 0);
            bus.ask(2, 0, READ, 0, 0, 0);
        }
        bus.tick(17);
        return bus;
    }

    /**
     * 0 - 1 - 2 and NODE 3 alone, after much has happened: nothing of these four is as at first.
     * The NUMBERS of 0, 1, 2 are 0, 2, 1; 0 and 1 have HOLD, 0 and 2 are CONTENDERS, so 2 is the
     * MANAGER. All are USED, no PACKETS are left, and every LABEL has a REQUEST that is DONE. The
     * CLOCK shows 90.
     */
    static void rich(SerialBus bus) {
        rich(bus, true);
    }

    /** The same, but nobody has HOLD, and 1 and 2 are CONTENDERS, so 1 is the MANAGER. */
    static void richWithOtherMarks(SerialBus bus) {
        rich(bus, false);
    }

    private static void rich(SerialBus bus, boolean marks) {
        bus.time(60);
        bus.plug(0, 1, 1, 0);
        bus.plug(2, 0, 3, 0);
        bus.reset(0, 0xA533, marks, marks);
        bus.reset(1, 0x5A69, marks, !marks);
        bus.reset(2, 0x6C92, false, true);
        bus.reset(3, 0x3608, false, false);
        for (int node = 0; node < 4; node++) {
            bus.talk(node, 3 + node, 10 + 7 * node);
        }
        bus.tick(1);
        bus.ask(2, 2, WRITE, 6, 0, 0);
        bus.ask(2, 2, WRITE, 7, 0, 0);
        bus.tick(8);
        bus.unplug(2, 0);
        bus.plug(1, 1, 2, 0);
        bus.tick(1);
        for (int word = 0; word < 8; word++) {
            for (int node = 0; node < 4; node++) {
                bus.ask(node, node, WRITE, word, 0, word < 7 ? 10 * node + word + 1 : 0xF00 + node);
            }
            if (word == 3 || word == 7) {
                bus.tick(40);
            }
        }
        bus.time(50);
    }

    /**
     * To come behind rich: NODES 0 .. 3 have a REQUEST at LABEL 0 that ended with NOBODY, and three
     * that wait; the first one of NODE 1 is answered by 2. The CLOCK shows 96.
     */
    static void atWork(SerialBus bus) {
        for (int node = 0; node < 4; node++) {
            bus.ask(node, 9, READ, 0, 0, 0);
            for (int label = 1; label < 4; label++) {
                bus.ask(node, node == 3 ? 3 : (node + 1) % 3, READ, label, 0, 0);
            }
        }
        bus.tick(6);
    }
}
