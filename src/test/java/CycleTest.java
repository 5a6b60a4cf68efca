/** The term CYCLE. */
public final class CycleTest {
    public static void main(String[] args) {
        channelsMustBeTaken();
        bandwidthsMustFit();
        orderIsThatOfTheNumbers();
        oneTooWideLeavesRoomForTheNext();
        anyIntAsBandwidthWord();
        onlyTheManagersWordsCount();
        onlyItsOwnBus();
        aManagerAlone();
        allTwelveTalk();
        noTalkers();
        noManager();
        beginsAnewAfterAReset();
        takenByCompareAndSwap();
        Due.finish();
    }

    private static void heard(String what, SerialBus bus, int... due) {
        for (int node = 0; node < due.length; node++) {
            Due.is(what + ": heard by " + node, bus.about(node, Stories.HEARD), due[node]);
        }
    }

    /** "if the MANAGER's WORD 7 has the bit of the channel not set (it is taken)". */
    private static void channelsMustBeTaken() {
        for (int channel = 0; channel < 32; channel++) {
            SerialBus taken = Stories.threeManaged(0, ~(1 << channel));
            taken.talk(2, channel, 10);
            taken.tick(1);
            Due.is("channel " + channel + " is taken", taken.count(5), 1);
            SerialBus free = Stories.threeManaged(0, 1 << channel);
            free.talk(2, channel, 10);
            free.tick(1);
            Due.is("channel " + channel + " is free", free.count(5), 0);
        }
    }

    private static int sentOf(int word6, int bandwidth0, int bandwidth1, int bandwidth2) {
        SerialBus bus = Stories.threeManaged(word6, 0);
        bus.talk(0, 1, bandwidth0);
        bus.talk(1, 1, bandwidth1);
        bus.talk(2, 1, bandwidth2);
        bus.tick(1);
        return bus.count(5);
    }

    /** "together at most 100 less the MANAGER's WORD 6". */
    private static void bandwidthsMustFit() {
        Due.is("just so", sentOf(60, 0, 40, 0), 1);
        Due.is("one too wide", sentOf(59, 0, 42, 0), 0);
        Due.is("one taken too much", sentOf(61, 0, 40, 0), 0);
        Due.is("together just so", sentOf(0, 30, 30, 40), 3);
        Due.is("together too wide", sentOf(0, 30, 31, 40), 2);
        Due.is("nothing taken", sentOf(100, 1, 1, 1), 0);
        Due.is("one taken", sentOf(99, 1, 1, 1), 1);
    }

    /** NUMBERS of 0, 1, 2 are 0, 2, 1. */
    private static void orderIsThatOfTheNumbers() {
        SerialBus bus = Stories.threeManaged(0, 0);
        bus.talk(0, 0, 20);
        bus.talk(1, 0, 60);
        bus.talk(2, 0, 60);
        bus.tick(1);
        heard("0 and 2 send", bus, 1, 2, 1);
    }

    private static void oneTooWideLeavesRoomForTheNext() {
        SerialBus bus = Stories.threeManaged(50, 0);
        bus.talk(0, 0, 20);
        bus.talk(2, 0, 40);
        bus.talk(1, 0, 30);
        bus.tick(1);
        heard("0 and 1 send", bus, 1, 1, 2);
        SerialBus free = Stories.threeManaged(50, ~1);
        free.talk(0, 1, 50);
        free.talk(2, 0, 50);
        free.tick(1);
        heard("a free channel takes no bandwidth", free, 1, 1, 0);
    }

    private static void anyIntAsBandwidthWord() {
        Due.is("more than is there", sentOf(101, 1, 1, 1), 0);
        Due.is("the greatest int", sentOf(Integer.MAX_VALUE, 1, 1, 1), 0);
        Due.is("less than 0", sentOf(-200, 100, 100, 100), 3);
        Due.is("less than 0, too little", sentOf(-199, 100, 100, 100), 2);
        Due.is("the least int", sentOf(Integer.MIN_VALUE, 100, 100, 100), 3);
    }

    private static void onlyTheManagersWordsCount() {
        SerialBus last = Stories.chain(3);
        last.reset(2, 0, false, true);
        last.tick(1);
        last.ask(2, 2, Stories.WRITE, 6, 0, 0);
        last.ask(2, 2, Stories.WRITE, 7, 0, 0);
        last.talk(1, 0, 10);
        last.tick(8);
        Due.is("the manager need not be the least node", last.count(5), 1);
        SerialBus bus = Stories.threeManaged();
        bus.ask(1, 1, Stories.WRITE, 6, 0, 0);
        bus.ask(1, 1, Stories.WRITE, 7, 0, 0);
        bus.talk(1, 0, 10);
        bus.tick(8);
        Due.is("root's words do not count", bus.count(5), 0);
    }

    /** "all other NODES of the BUS HEARD one more". */
    private static void onlyItsOwnBus() {
        SerialBus bus = Stories.threeManaged(0, 0);
        bus.talk(1, 0, 100);
        bus.talk(5, 0, 100);
        bus.tick(1);
        heard("1 sends", bus, 1, 0, 1, 0, 0, 0);
        Due.is("5 has no manager", bus.count(5), 1);
    }

    private static void aManagerAlone() {
        SerialBus bus = new SerialBus();
        bus.reset(4, 0, false, true);
        bus.tick(1);
        bus.ask(4, 4, Stories.WRITE, 6, 0, 0);
        bus.ask(4, 4, Stories.WRITE, 7, 0, 0);
        bus.talk(4, 9, 100);
        bus.tick(8);
        Due.is("it sends", bus.count(5), 1);
        heard("nobody hears it", bus, 0, 0, 0, 0, 0);
    }

    /** The last NUMBER, too, may just fit. */
    private static void allTwelveTalk() {
        SerialBus bus = Stories.chain(12);
        bus.reset(6, 1, false, true);
        bus.tick(1);
        bus.ask(6, 6, Stories.WRITE, 6, 0, 100 - 12 * 8);
        bus.ask(6, 6, Stories.WRITE, 7, 0, 0);
        for (int node = 0; node < 12; node++) {
            bus.talk(node, 31 - node, 8);
        }
        bus.tick(8);
        Due.is("twelve send", bus.count(5), 12);
        heard("all but its own", bus, 11, 11, 11, 11, 11, 11, 11, 11, 11, 11, 11, 11);
        bus.talk(0, 31, 9);
        bus.tick(8);
        Due.is("the last does not fit", bus.count(5), 23);
        Due.is("6 has sent no more", bus.about(6, Stories.HEARD) - bus.about(5, Stories.HEARD), 1);
    }

    /** Nobody sends in such a CYCLE, and no SLOT is done instead. */
    private static void noTalkers() {
        SerialBus bus = Stories.threeManaged(0, 0);
        bus.ask(1, 9, Stories.READ, 0, 0, 0);
        bus.tick(1);
        Due.is("no slot", bus.ended(1, 0), Stories.WAITS);
        heard("nobody sends", bus, 0, 0, 0);
        bus.tick(1);
        Due.is("a slot", bus.ended(1, 0), Stories.NOBODY);
    }

    /** "the BUS needs a MANAGER (else a SLOT is done instead)". */
    private static void noManager() {
        SerialBus bus = Stories.three();
        bus.ask(1, 1, Stories.WRITE, 6, 0, 0);
        bus.ask(1, 1, Stories.WRITE, 7, 0, 0);
        bus.talk(2, 0, 1);
        bus.tick(7);
        bus.ask(0, 9, Stories.READ, 0, 0, 0);
        bus.tick(1);
        Due.is("no cycle", bus.count(5), 0);
        Due.is("a slot", bus.ended(0, 0), Stories.NOBODY);
    }

    /** After a RESET all channels are free and no bandwidth is there, though the TALK stays. */
    private static void beginsAnewAfterAReset() {
        SerialBus bus = Stories.threeManaged(0, 0);
        bus.talk(1, 3, 1);
        bus.tick(1);
        Due.is("before", bus.count(5), 1);
        bus.reset(2, 0, false, false);
        bus.tick(8);
        Due.is("after", bus.count(5), 1);
        bus.ask(0, 0, Stories.WRITE, 6, 0, 99);
        bus.ask(0, 0, Stories.WRITE, 7, 0, ~(1 << 3));
        bus.tick(8);
        Due.is("taken again", bus.count(5), 2);
    }

    /** NODES 1 and 2 both want channel 4 as they have read it to be free: 1 comes first. */
    private static void takenByCompareAndSwap() {
        SerialBus bus = Stories.threeManaged(0, -1);
        bus.ask(1, 0, Stories.SWAP, 7, -1, ~(1 << 4));
        bus.ask(2, 0, Stories.SWAP, 7, -1, ~(1 << 4));
        bus.talk(1, 4, 10);
        bus.tick(7);
        Due.is("1 has got it", bus.value(1, 0), -1);
        Due.is("2 has not", bus.value(2, 0), ~(1 << 4));
        bus.tick(2);
        Due.is("1 talks", bus.about(2, Stories.HEARD), 1);
    }
}
