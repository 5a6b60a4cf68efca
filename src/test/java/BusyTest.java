/** "is that one's QUEUE full, it is BUSY": the PACKET goes behind, "unless it was sent the 4th time". */
public final class BusyTest {
    public static void main(String[] args) {
        fivePacketsAreNotFull();
        sixPacketsAreFull();
        itself();
        fourTimes();
        theFourthTimeMayDo();
        eachPacketHasItsOwnFour();
        fourTimesEachInTurns();
        goesBehindAllOthers();
        goesBackToAFullQueue();
        aNewRequestBeginsAnew();
        Due.finish();
    }

    private static void fivePacketsAreNotFull() {
        SerialBus bus = new SerialBus();
        Stories.crowded(bus, 4, 1);
        bus.ask(2, 0, Stories.WRITE, 4, 0, 22);
        Due.is("five packets", bus.about(0, Stories.PACKETS), 5);
        bus.tick(1);
        Due.is("the work is done", bus.word(0, 4), 22);
        Due.is("its answer is the sixth", bus.about(0, Stories.PACKETS), 6);
        Due.is("the asker's queue", bus.about(2, Stories.PACKETS), 0);
    }

    private static void sixPacketsAreFull() {
        SerialBus bus = new SerialBus();
        Stories.fullOfFour(bus);
        bus.ask(3, 0, Stories.WRITE, 4, 0, 33);
        Due.is("six packets", bus.about(0, Stories.PACKETS), 6);
        int sent = bus.count(4);
        bus.tick(1);
        Due.is("it was sent", bus.count(4), sent + 1);
        Due.is("the asker is used", bus.about(3, Stories.USED), 1);
        Due.is("no work is done", bus.word(0, 4), 0);
        Due.is("no answer comes", bus.about(0, Stories.PACKETS), 6);
        Due.is("the packet is back", bus.about(3, Stories.PACKETS), 1);
        Due.is("it waits", bus.ended(3, 0), Stories.WAITS);
    }

    /** "(A REQUEST to the NODE itself likewise; the QUEUE is looked at after the PACKET is out of it.)" */
    private static void itself() {
        SerialBus bus = new SerialBus();
        Stories.crowded(bus, 4, 2);
        bus.tick(1);
        Due.is("0 has sent", bus.about(0, Stories.USED), 1);
        Due.is("six packets again", bus.about(0, Stories.PACKETS), 6);
        bus.tick(2);
        Due.is("the second one's work is done, too", bus.word(0, 0), 1);
        Due.is("six packets still", bus.about(0, Stories.PACKETS), 6);
        Due.is("none is busy", bus.about(0, Stories.WAITING), 4);
    }

    /**
     * NODE 0's QUEUE is full after two SLOTS: four REQUESTS of its own, the last of them to the
     * NODE given, and two ANSWERS. NODES 1 and 2 have another REQUEST to it.
     */
    private static SerialBus full(int last) {
        SerialBus bus = Stories.three();
        bus.time(60);
        for (int label = 0; label < 4; label++) {
            bus.ask(0, label < 3 ? 0 : last, Stories.WRITE, label, 0, 1);
        }
        for (int label = 0; label < 2; label++) {
            bus.ask(1, 0, Stories.WRITE, 4, 0, 11 + label);
            bus.ask(2, 0, Stories.WRITE, 5, 0, 21 + label);
        }
        bus.tick(2);
        return bus;
    }

    /** NODE 1 is BUSY in the third SLOT from now and each fourth after it. */
    private static void fourTimes() {
        SerialBus bus = full(0);
        bus.tick(2);
        for (int time = 1; time <= 3; time++) {
            bus.tick(1);
            Due.is("waits after time " + time, bus.ended(1, 1), Stories.WAITS);
            Due.is("packet after time " + time, bus.about(1, Stories.PACKETS), 1);
            bus.tick(3);
        }
        Due.is("sent, busy or not", bus.count(4), 12);
        bus.tick(1);
        Due.is("1 is busy", bus.ended(1, 1), Stories.BUSY);
        Due.is("1's packet is gone", bus.about(1, Stories.PACKETS), 0);
        Due.is("2 waits", bus.ended(2, 1), Stories.WAITS);
        bus.tick(1);
        Due.is("2 is busy", bus.ended(2, 1), Stories.BUSY);
        Due.is("sent in all", bus.count(4), 14);
        Due.is("no work was done", bus.word(0, 4), 11);
        Due.is("the first waits still", bus.ended(1, 0), Stories.WAITS);
        bus.tick(1);
        Due.is("the first is answered", bus.ended(1, 0), Stories.DONE);
    }

    private static void theFourthTimeMayDo() {
        SerialBus bus = full(9);
        bus.tick(13);
        Due.is("0 has room", bus.about(0, Stories.PACKETS), 5);
        bus.tick(2);
        Due.is("1's work is done", bus.word(0, 4), 12);
        Due.is("1 waits for the answer", bus.ended(1, 1), Stories.WAITS);
        Due.is("1's packet is sent", bus.about(1, Stories.PACKETS), 0);
        bus.tick(1);
        Due.is("2 is busy", bus.ended(2, 1), Stories.BUSY);
        Due.is("2's work is not done", bus.word(0, 5), 21);
    }

    /** Two PACKETS of NODE 1 take turns, so that each is sent twice while 0 is full. */
    private static void eachPacketHasItsOwnFour() {
        SerialBus bus = full(0);
        bus.ask(1, 0, Stories.WRITE, 6, 0, 13);
        bus.tick(15);
        Due.is("label 1, sent twice", bus.ended(1, 1), Stories.WAITS);
        Due.is("label 2, sent twice", bus.ended(1, 2), Stories.WAITS);
        Due.is("both are in the queue", bus.about(1, Stories.PACKETS), 2);
        bus.tick(30);
        Due.is("label 1 is done", bus.ended(1, 1), Stories.DONE);
        Due.is("label 2 is done", bus.ended(1, 2), Stories.DONE);
    }

    /**
     * Two PACKETS of NODE 2 take turns, so that each goes behind another when it is BUSY. Once NODE
     * 0 sends an ANSWER in each turn, NODE 1 fills the room before 2 can.
     */
    private static void fourTimesEachInTurns() {
        SerialBus bus = Stories.three();
        bus.time(60);
        for (int label = 0; label < 4; label++) {
            bus.ask(0, 0, Stories.READ, 0, 0, 0);
        }
        bus.ask(1, 0, Stories.READ, 0, 0, 0);
        for (int value = 21; value <= 23; value++) {
            bus.ask(2, 0, Stories.WRITE, 5, 0, value);
        }
        bus.tick(16);
        Due.is("each was sent twice, 0 has room", bus.about(0, Stories.PACKETS), 5);
        for (int label = 0; label < 4; label++) {
            bus.ask(1, 0, Stories.READ, 0, 0, 0);
        }
        bus.tick(9);
        Due.is("each was sent three times", bus.about(2, Stories.PACKETS), 2);
        bus.tick(1);
        Due.is("the first is busy", bus.ended(2, 1), Stories.BUSY);
        Due.is("the second waits", bus.ended(2, 2), Stories.WAITS);
        bus.tick(4);
        Due.is("the second is busy", bus.ended(2, 2), Stories.BUSY);
        Due.is("no work was done", bus.word(0, 5), 21);
    }

    private static void goesBehindAllOthers() {
        SerialBus bus = full(0);
        bus.ask(1, 9, Stories.READ, 0, 0, 0);
        bus.tick(3);
        Due.is("busy at first", bus.ended(1, 1), Stories.WAITS);
        Due.is("both are in the queue", bus.about(1, Stories.PACKETS), 2);
        Due.is("the next has not been sent", bus.ended(1, 2), Stories.WAITS);
        bus.tick(4);
        Due.is("the next comes first", bus.ended(1, 2), Stories.NOBODY);
        Due.is("the busy one is there", bus.about(1, Stories.PACKETS), 1);
    }

    /** A chain 0 - .. - 5 with NUMBERS as NODES; 0 and 1 are full when 1 sends its first PACKET. */
    private static SerialBus twoFull() {
        SerialBus bus = Stories.chain(6);
        bus.reset(5, 1, true, false);
        bus.tick(1);
        bus.time(60);
        bus.ask(5, 1, Stories.READ, 0, 0, 0);
        bus.ask(4, 1, Stories.READ, 0, 0, 0);
        bus.ask(3, 0, Stories.READ, 0, 0, 0);
        bus.ask(2, 0, Stories.READ, 0, 0, 0);
        for (int label = 0; label < 4; label++) {
            bus.ask(1, label == 0 ? 0 : 9, Stories.READ, 0, 0, 0);
            bus.ask(0, 0, Stories.READ, 0, 0, 0);
        }
        bus.tick(4);
        return bus;
    }

    private static void goesBackToAFullQueue() {
        SerialBus bus = twoFull();
        Due.is("0 is full", bus.about(0, Stories.PACKETS), 6);
        Due.is("1 is full", bus.about(1, Stories.PACKETS), 6);
        bus.tick(1);
        Due.is("1 has sent", bus.about(1, Stories.USED), 1);
        Due.is("1 is full still", bus.about(1, Stories.PACKETS), 6);
        Due.is("0 is full still", bus.about(0, Stories.PACKETS), 6);
        Due.is("the packet waits", bus.ended(1, 0), Stories.WAITS);
        bus.tick(3);
        Due.is("the next of 1", bus.ended(1, 1), Stories.NOBODY);
    }

    /** The 4 times are those of one REQUEST, not of its LABEL: 1 fills the room that 0 gets. */
    private static void aNewRequestBeginsAnew() {
        SerialBus bus = Stories.busy();
        bus.tick(1);
        Due.is("the old one", bus.ended(2, 1), Stories.BUSY);
        bus.ask(1, 0, Stories.READ, 0, 0, 0);
        Due.is("the label again", bus.ask(2, 0, Stories.WRITE, 4, 0, 9), 1);
        int sent = bus.count(4);
        bus.tick(4);
        Due.is("0, 1 and 2 have sent", bus.count(4), sent + 3);
        Due.is("0 is full", bus.about(0, Stories.PACKETS), 6);
        Due.is("2's packet is back", bus.about(2, Stories.PACKETS), 1);
        Due.is("it waits", bus.ended(2, 1), Stories.WAITS);
        bus.tick(30);
        Due.is("it is done", bus.ended(2, 1), Stories.DONE);
        Due.is("its work is done", bus.word(0, 4), 9);
    }
}
