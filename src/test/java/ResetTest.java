/** Promise 4. */
public final class ResetTest {
    public static void main(String[] args) {
        bitsAreTakenFromTheLowestOn();
        onlySixteenBits();
        placeIsTheFirstAgain();
        marksAreSetAndTaken();
        busIsDirty();
        changesNothingElseBeforeTheTick();
        theLastOfSeveralCounts();
        refusesNodes();
        Due.finish();
    }

    private static void bitsAreTakenFromTheLowestOn() {
        for (int bit = 0; bit < 16; bit++) {
            SerialBus bus = Stories.pair(0x5A5A, 0x5A5A ^ 1 << bit);
            boolean one = (0x5A5A >> bit & 1) == 1;
            Due.is("root by bit " + bit, bus.about(0, Stories.ROOT), one ? 0 : 1);
            Due.is("place behind bit " + bit, bus.about(0, Stories.PLACE), (bit + 1) % 16);
        }
        SerialBus bus = Stories.pair(-1, 0xFFFF);
        Due.is("higher bits do not count", bus.about(0, Stories.ROOT), -1);
    }

    /** "the 16 low bits": bit 15 is the last. */
    private static void onlySixteenBits() {
        SerialBus last = Stories.pair(0x8000, 0);
        Due.is("bit 15 is one", last.about(1, Stories.ROOT), 0);
        SerialBus bus = Stories.pair(0x10000, 0);
        Due.is("bit 16 is none", bus.count(7), 1);
        Due.is("place after 24 rounds", bus.about(0, Stories.PLACE), 8);
        SerialBus other = Stories.pair(0x80000000 | 4, 2);
        Due.is("bit 31 is none", other.about(0, Stories.ROOT), 1);
    }

    /** "and its place the first". */
    private static void placeIsTheFirstAgain() {
        SerialBus bus = Stories.pair(3, 1);
        Due.is("place", bus.about(0, Stories.PLACE), 2);
        bus.reset(0, 3, false, false);
        Due.is("place of 0 after reset", bus.about(0, Stories.PLACE), 0);
        Due.is("place of 1 after reset of 0", bus.about(1, Stories.PLACE), 2);
        bus.tick(1);
        Due.is("1 against 0, at once", bus.about(0, Stories.PLACE), 1);
        Due.is("1 goes on", bus.about(1, Stories.PLACE), 3);
    }

    private static void marksAreSetAndTaken() {
        SerialBus bus = Stories.chain(3);
        bus.reset(0, 0, true, true);
        bus.tick(1);
        Due.is("hold makes the root", bus.about(2, Stories.ROOT), 0);
        Due.is("contender is the manager", bus.about(2, Stories.MANAGER), 0);
        bus.reset(0, 0, true, false);
        bus.tick(1);
        Due.is("hold stays", bus.about(2, Stories.ROOT), 0);
        Due.is("no contender now", bus.about(2, Stories.MANAGER), -1);
        bus.reset(0, 0, false, true);
        bus.tick(1);
        Due.is("no hold now", bus.about(2, Stories.ROOT), 1);
        Due.is("contender again", bus.about(2, Stories.MANAGER), 0);
    }

    private static void busIsDirty() {
        SerialBus bus = Stories.chain(3);
        bus.plug(4, 0, 5, 0);
        bus.reset(4, 1, false, false);
        bus.tick(2);
        Due.is("no reset without change", bus.count(3), 9);
        bus.reset(2, 0, false, false);
        Due.is("number of 0", bus.about(0, Stories.NUMBER), -1);
        Due.is("number of 4", bus.about(4, Stories.NUMBER), 1);
        Due.is("no reset before a tick", bus.count(3), 9);
        bus.tick(1);
        Due.is("one reset more", bus.count(3), 10);
        Due.is("number of 0 again", bus.about(0, Stories.NUMBER), 0);
        bus.tick(1);
        Due.is("not dirty any more", bus.count(3), 10);
    }

    /** "its BUS is DIRTY": only the NUMBERS go at once, all else in the RESET. */
    private static void changesNothingElseBeforeTheTick() {
        for (int node = 0; node < 3; node++) {
            SerialBus bus = atWork();
            String before = told(bus);
            bus.reset(node, 0xFFFF, true, true);
            Due.is("before the tick, reset of " + node, told(bus), before);
            for (int other = 0; other < 3; other++) {
                Due.is("but the number of " + other, bus.about(other, Stories.NUMBER), -1);
            }
            bus.tick(1);
            for (int other = 0; other < 3; other++) {
                Due.is("in the tick the packets go", bus.about(other, Stories.PACKETS), 0);
                Due.is("the words are as at first", bus.word(other, 6), 100);
            }
        }
    }

    /** NODES 0 .. 2 have all sent once, to themselves: they have WORD 6 changed and PACKETS left. */
    private static SerialBus atWork() {
        SerialBus bus = Stories.threeManaged();
        for (int node = 0; node < 3; node++) {
            bus.ask(node, node, Stories.WRITE, 6, 0, node);
            bus.ask(node, 9, Stories.READ, 0, 0, 0);
        }
        bus.tick(3);
        return bus;
    }

    private static String told(SerialBus bus) {
        StringBuilder text = new StringBuilder();
        for (int node = 0; node < 3; node++) {
            for (int what = Stories.PARENT; what <= Stories.USED; what++) {
                text.append(bus.about(node, what)).append(' ');
            }
            text.append(bus.word(node, 6)).append(' ').append(bus.word(node, 7)).append(' ');
            text.append(bus.ended(node, 0)).append(' ').append(bus.ended(node, 1)).append(' ');
        }
        return text.toString();
    }

    private static void theLastOfSeveralCounts() {
        SerialBus bus = Stories.chain(2);
        bus.reset(0, 1, true, true);
        bus.reset(1, 2, false, false);
        bus.reset(0, 0, false, false);
        bus.tick(1);
        Due.is("one reset for all of them", bus.count(3), 11);
        Due.is("bits and hold are the last ones", bus.about(0, Stories.ROOT), 1);
        Due.is("rounds", bus.about(0, Stories.PLACE), 2);
        Due.is("no contender", bus.about(0, Stories.MANAGER), -1);
    }

    private static void refusesNodes() {
        for (int no : Due.NO_NODES) {
            Due.failsAndChangesNothing(
                    "reset of " + no, Due.NO_NODE, Stories::mixed, bus -> bus.reset(no, 5, true, true));
        }
    }
}
