import java.util.List;

/** The terms SLOT and PACKETS; BusyTest and LateTest have the rest of them. */
public final class SlotTest {
    public static void main(String[] args) {
        turnsAreFair();
        whoAnswersIsUsedToo();
        nothingToSend();
        usedIsTakenOnlyIfNeeded();
        usedIsTakenInItsOwnBus();
        toItself();
        nobody();
        nobodyThoughFull();
        Due.finish();
    }

    private static void turnsAreFair() {
        SerialBus bus = Stories.three();
        for (int node = 0; node < 3; node++) {
            bus.ask(node, 9, Stories.READ, 0, 0, 0);
            bus.ask(node, 9, Stories.READ, 0, 0, 0);
        }
        int[][] packetsLeft = {
            {2, 1, 2}, {2, 1, 1}, {1, 1, 1}, {1, 1, 1}, {1, 0, 1}, {1, 0, 0}, {0, 0, 0}, {0, 0, 0}
        };
        int[][] used = {
            {0, 1, 0}, {0, 1, 1}, {1, 1, 1}, {0, 0, 0}, {0, 1, 0}, {0, 1, 1}, {1, 1, 1}, {1, 1, 1}
        };
        for (int slot = 0; slot < packetsLeft.length; slot++) {
            bus.tick(1);
            for (int node = 0; node < 3; node++) {
                String where = " of " + node + " after slot " + slot;
                Due.is("packets" + where, bus.about(node, Stories.PACKETS), packetsLeft[slot][node]);
                Due.is("used" + where, bus.about(node, Stories.USED), used[slot][node]);
            }
        }
        Due.is("used taken once", bus.count(6), 1);
    }

    private static void whoAnswersIsUsedToo() {
        SerialBus bus = Stories.three();
        bus.ask(0, 2, Stories.READ, 0, 0, 0);
        bus.tick(1);
        Due.is("before", bus.about(2, Stories.USED), 0);
        bus.tick(1);
        Due.is("answered", bus.ended(0, 0), Stories.DONE);
        Due.is("after", bus.about(2, Stories.USED), 1);
    }

    /** "but some NODE has PACKETS": if none has, nothing is done. */
    private static void nothingToSend() {
        SerialBus bus = Stories.three();
        bus.tick(1);
        Due.is("the clock alone", Due.changes(Stories.three(), bus), List.of("count(2)=2"));
    }

    private static void usedIsTakenOnlyIfNeeded() {
        SerialBus bus = Stories.three();
        bus.ask(1, 9, Stories.READ, 0, 0, 0);
        bus.tick(5);
        Due.is("no packets: used stays", bus.about(1, Stories.USED), 1);
        Due.is("not taken", bus.count(6), 0);
        bus.ask(1, 9, Stories.READ, 0, 0, 0);
        bus.ask(0, 9, Stories.READ, 0, 0, 0);
        bus.tick(1);
        Due.is("0 comes before the used 1", bus.about(0, Stories.PACKETS), 0);
        bus.tick(1);
        Due.is("taken now", bus.count(6), 1);
        Due.is("nothing was sent then", bus.count(4), 2);
        Due.is("0 is not used, either", bus.about(0, Stories.USED), 0);
        bus.tick(1);
        Due.is("now 1 sends", bus.count(4), 3);
    }

    /** A SLOT is one BUS's: that of 7 takes nothing from NODE 1. */
    private static void usedIsTakenInItsOwnBus() {
        SerialBus bus = Stories.three();
        bus.ask(1, 9, Stories.READ, 0, 0, 0);
        bus.ask(7, 7, Stories.READ, 0, 0, 0);
        bus.tick(2);
        Due.is("7 is used no more", bus.about(7, Stories.USED), 0);
        Due.is("1 is", bus.about(1, Stories.USED), 1);
        Due.is("taken once", bus.count(6), 1);
    }

    private static void toItself() {
        SerialBus bus = Stories.three();
        bus.ask(2, 2, Stories.SWAP, 1, 0, 5);
        bus.tick(1);
        Due.is("the work is done", bus.word(2, 1), 5);
        Due.is("the answer is in the queue", bus.about(2, Stories.PACKETS), 1);
        bus.tick(1);
        Due.is("used is taken", bus.about(2, Stories.USED), 0);
        Due.is("it waits", bus.ended(2, 0), Stories.WAITS);
        bus.tick(1);
        Due.is("value", bus.value(2, 0), 0);
        Due.is("sent", bus.count(4), 2);
    }

    private static void nobody() {
        SerialBus bus = Stories.three();
        bus.ask(0, 3, Stories.WRITE, 0, 0, 5);
        bus.tick(1);
        Due.is("nobody", bus.ended(0, 0), Stories.NOBODY);
        Due.is("no work", bus.word(3, 0), 0);
        Due.is("no answer", bus.about(3, Stories.PACKETS), 0);
        Due.is("it was sent", bus.count(4), 1);
        Due.is("0 is used", bus.about(0, Stories.USED), 1);
        bus.ask(0, 3, Stories.WRITE, 0, 0, 5);
        bus.plug(0, 0, 3, 0);
        bus.reset(1, 1, false, false);
        bus.tick(1);
        bus.ask(0, 3, Stories.WRITE, 0, 0, 5);
        bus.tick(1);
        Due.is("now it is of the bus", bus.word(3, 0), 5);
    }

    /** "To a NODE of another BUS: it ends with NOBODY", at once, though that one's QUEUE is full. */
    private static void nobodyThoughFull() {
        SerialBus bus = new SerialBus();
        Stories.fullOfFour(bus);
        bus.ask(9, 0, Stories.WRITE, 4, 0, 9);
        bus.tick(1);
        Due.is("0 is full", bus.about(0, Stories.PACKETS), 6);
        Due.is("9 has nobody", bus.ended(9, 0), Stories.NOBODY);
        Due.is("9 has no packets", bus.about(9, Stories.PACKETS), 0);
        Due.is("no work", bus.word(0, 4), 0);
    }
}
