/** The terms SLOT, PACKETS and REQUESTS. */
public final class SlotTest {
    public static void main(String[] args) {
        turnsAreFair();
        usedIsTakenOnlyIfNeeded();
        toItself();
        toItselfWithAFullQueue();
        busyFourTimes();
        theFourthTimeMayDo();
        busyGoesBehindAllOthers();
        nobody();
        lateTakesThePacketFromTheQueue();
        lateLeavesTheAnswer();
        theAnswerOfAnOldRequest();
        Due.finish();
    }

    private static void turnsAreFair() {
        SerialBus bus = Stories.three();
        for (int node = 0; node < 3; node++) {
            bus.ask(node, 9, Stories.READ, 0, 0, 0);
            bus.ask(node, 9, Stories.READ, 0, 0, 0);
        }
        int[][] packetsLeft = {
            {2, 1, 2}, {2, 1, 1}, {1, 1, 1}, {1, 1, 1}, {1, 0, 1}, {1, 0, 0}, {0, 0, 0}, {0, 0, 0}
        };
        int[][] used = {
            {0, 1, 0}, {0, 1, 1}, {1, 1, 1}, {0, 0, 0}, {0, 1, 0}, {0, 1, 1}, {1, 1, 1}, {1, 1, 1}
        };
        for (int slot = 0; slot < packetsLeft.length; slot++) {
            bus.tick(1);
            for (int node = 0; node < 3; node++) {
                String where = " of " + node + " after slot " + slot;
                Due.is("packets" + where, bus.about(node, Stories.PACKETS), packetsLeft[slot][node]);
                Due.is("used" + where, bus.about(node, Stories.USED), used[slot][node]);
            }
        }
        Due.is("used taken once", bus.count(6), 1);
    }

    private static void usedIsTakenOnlyIfNeeded() {
        SerialBus bus = Stories.three();
        bus.ask(1, 9, Stories.READ, 0, 0, 0);
        bus.tick(5);
        Due.is("no packets: used stays", bus.about(1, Stories.USED), 1);
        Due.is("not taken", bus.count(6), 0);
        bus.ask(1, 9, Stories.READ, 0, 0, 0);
        bus.ask(0, 9, Stories.READ, 0, 0, 0);
        bus.tick(1);
        Due.is("0 comes before the used 1", bus.about(0, Stories.PACKETS), 0);
        bus.tick(1);
        Due.is("taken now", bus.count(6), 1);
        Due.is("nothing was sent then", bus.count(4), 2);
        Due.is("0 is not used, either", bus.about(0, Stories.USED), 0);
        bus.tick(1);
        Due.is("now 1 sends", bus.count(4), 3);
    }

    private static void toItself() {
        SerialBus bus = Stories.three();
        bus.ask(2, 2, Stories.SWAP, 1, 0, 5);
        bus.tick(1);
        Due.is("the work is done", bus.word(2, 1), 5);
        Due.is("the answer is in the queue", bus.about(2, Stories.PACKETS), 1);
        bus.tick(1);
        Due.is("used is taken", bus.about(2, Stories.USED), 0);
        Due.is("it waits", bus.ended(2, 0), Stories.WAITS);
        bus.tick(1);
        Due.is("value", bus.value(2, 0), 0);
        Due.is("sent", bus.count(4), 2);
    }

    private static void toItselfWithAFullQueue() {
        SerialBus bus = full(0);
        Due.is("six packets", bus.about(0, Stories.PACKETS), 6);
        bus.tick(1);
        Due.is("still six", bus.about(0, Stories.PACKETS), 6);
        Due.is("the work is done all the same", bus.word(0, 0), 1);
    }

    /**
     * NODE 0's QUEUE is full after two SLOTS: four REQUESTS of its own, the last of them to the
     * NODE given, and two ANSWERS. NODES 1 and 2 have another REQUEST to it.
     */
    private static SerialBus full(int last) {
        SerialBus bus = Stories.three();
        bus.time(60);
        for (int label = 0; label < 4; label++) {
            bus.ask(0, label < 3 ? 0 : last, Stories.WRITE, label, 0, 1);
        }
        for (int label = 0; label < 2; label++) {
            bus.ask(1, 0, Stories.WRITE, 4, 0, 11 + label);
            bus.ask(2, 0, Stories.WRITE, 5, 0, 21 + label);
        }
        bus.tick(2);
        return bus;
    }

    private static void busyFourTimes() {
        SerialBus bus = full(0);
        bus.tick(14);
        Due.is("1 waits", bus.ended(1, 1), Stories.WAITS);
        Due.is("1's packet is in its queue", bus.about(1, Stories.PACKETS), 1);
        Due.is("sent, busy or not", bus.count(4), 12);
        bus.tick(1);
        Due.is("1 is busy", bus.ended(1, 1), Stories.BUSY);
        Due.is("1's packet is gone", bus.about(1, Stories.PACKETS), 0);
        Due.is("2 waits", bus.ended(2, 1), Stories.WAITS);
        bus.tick(1);
        Due.is("2 is busy", bus.ended(2, 1), Stories.BUSY);
        Due.is("sent in all", bus.count(4), 14);
        Due.is("no work was done", bus.word(0, 4), 11);
        Due.is("the first waits still", bus.ended(1, 0), Stories.WAITS);
        bus.tick(1);
        Due.is("the first is answered", bus.ended(1, 0), Stories.DONE);
    }

    private static void theFourthTimeMayDo() {
        SerialBus bus = full(9);
        bus.tick(13);
        Due.is("0 has room", bus.about(0, Stories.PACKETS), 5);
        bus.tick(2);
        Due.is("1's work is done", bus.word(0, 4), 12);
        Due.is("1 waits for the answer", bus.ended(1, 1), Stories.WAITS);
        Due.is("1's packet is sent", bus.about(1, Stories.PACKETS), 0);
        bus.tick(1);
        Due.is("2 is busy", bus.ended(2, 1), Stories.BUSY);
        Due.is("2's work is not done", bus.word(0, 5), 21);
    }

    private static void busyGoesBehindAllOthers() {
        SerialBus bus = full(0);
        bus.ask(1, 9, Stories.READ, 0, 0, 0);
        bus.tick(3);
        Due.is("busy at first", bus.ended(1, 1), Stories.WAITS);
        Due.is("both are in the queue", bus.about(1, Stories.PACKETS), 2);
        Due.is("the next has not been sent", bus.ended(1, 2), Stories.WAITS);
        bus.tick(4);
        Due.is("the next comes first", bus.ended(1, 2), Stories.NOBODY);
        Due.is("the busy one is there", bus.about(1, Stories.PACKETS), 1);
    }

    private static void nobody() {
        SerialBus bus = Stories.three();
        bus.ask(0, 3, Stories.WRITE, 0, 0, 5);
        bus.tick(1);
        Due.is("nobody", bus.ended(0, 0), Stories.NOBODY);
        Due.is("no work", bus.word(3, 0), 0);
        Due.is("no answer", bus.about(3, Stories.PACKETS), 0);
        Due.is("it was sent", bus.count(4), 1);
        Due.is("0 is used", bus.about(0, Stories.USED), 1);
        bus.ask(0, 3, Stories.WRITE, 0, 0, 5);
        bus.plug(0, 0, 3, 0);
        bus.reset(1, 1, false, false);
        bus.tick(1);
        bus.ask(0, 3, Stories.WRITE, 0, 0, 5);
        bus.tick(1);
        Due.is("now it is of the bus", bus.word(3, 0), 5);
    }

    private static void lateTakesThePacketFromTheQueue() {
        SerialBus bus = Stories.three();
        bus.ask(0, 2, Stories.WRITE, 0, 0, 1);
        bus.time(2);
        bus.ask(0, 2, Stories.WRITE, 0, 0, 2);
        bus.time(20);
        bus.ask(0, 2, Stories.WRITE, 0, 0, 3);
        bus.tick(2);
        Due.is("late", bus.ended(0, 1), Stories.LATE);
        Due.is("the others wait or are done", bus.ended(0, 0), Stories.DONE);
        Due.is("one packet is left", bus.about(0, Stories.PACKETS), 1);
        bus.tick(2);
        Due.is("the third was sent next", bus.word(2, 0), 3);
        bus.tick(10);
        Due.is("and done", bus.ended(0, 2), Stories.DONE);
        Due.is("four packets in all", bus.count(4), 4);
    }

    private static void lateLeavesTheAnswer() {
        SerialBus bus = new SerialBus();
        bus.tick(1);
        bus.time(2);
        bus.ask(0, 0, Stories.WRITE, 0, 0, 1);
        bus.tick(2);
        Due.is("late", bus.ended(0, 0), Stories.LATE);
        Due.is("the answer stays", bus.about(0, Stories.PACKETS), 1);
        bus.tick(1);
        Due.is("it is sent", bus.count(4), 2);
        Due.is("late is late", bus.ended(0, 0), Stories.LATE);
    }

    private static void theAnswerOfAnOldRequest() {
        SerialBus bus = new SerialBus();
        bus.tick(1);
        bus.time(2);
        bus.ask(0, 0, Stories.WRITE, 0, 0, 1);
        bus.tick(2);
        bus.time(20);
        Due.is("the same label", bus.ask(0, 0, Stories.READ, 0, 0, 0), 0);
        bus.tick(1);
        Due.is("the old answer was sent", bus.count(4), 2);
        Due.is("it does not end the new one", bus.ended(0, 0), Stories.WAITS);
        bus.tick(4);
        Due.is("the new one's value", bus.value(0, 0), 1);
    }
}
