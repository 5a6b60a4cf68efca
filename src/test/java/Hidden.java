import java.util.ArrayList;
import java.util.List;
import java.util.function.Consumer;

/**
 * What no call tells at once: BITS, HOLD, CONTENDER and TALK of NODES 0 .. 3, and TIME. It is found
 * on new objects that live through the story, which leaves NODES 8 .. 11 as they are at first.
 */
final class Hidden {
    private Hidden() {}

    static List<String> of(Consumer<SerialBus> story) {
        List<String> all = new ArrayList<>();
        for (int node = 0; node < 4; node++) {
            boolean hold = hasHold(after(story), node);
            all.add(node + " hold: " + hold);
            all.add(node + " contender: " + isContender(after(story), node));
            all.add(node + " bits: " + bits(after(story), node, hold));
            all.add(node + " talk: " + talk(after(story), node));
        }
        all.add("time: " + time(after(story)));
        return all;
    }

    /** NODES 0 .. 3 are alone and DIRTY, so that nothing is sent that the story leaves in QUEUES. */
    private static SerialBus after(Consumer<SerialBus> story) {
        SerialBus bus = Changes.after(story);
        for (int node = 0; node < 4; node++) {
            for (int port = 0; port < 3; port++) {
                int a = node;
                int p = port;
                Due.answer(() -> bus.unplug(a, p));
            }
            bus.plug(node, 0, 11, 0);
            bus.unplug(node, 0);
        }
        return bus;
    }

    /** An end of a chain of three is its ROOT only by HOLD, and nobody takes BITS in it. */
    private static void makeEndOfThree(SerialBus bus, int node) {
        bus.plug(node, 0, 11, 0);
        bus.plug(11, 1, 10, 0);
        bus.tick(1);
    }

    private static boolean hasHold(SerialBus bus, int node) {
        makeEndOfThree(bus, node);
        return bus.about(node, Stories.ROOT) == node;
    }

    private static boolean isContender(SerialBus bus, int node) {
        makeEndOfThree(bus, node);
        return bus.about(node, Stories.MANAGER) == node;
    }

    /** The places that the BITS are taken up to, against a row of 0: behind each 1. */
    private static String bits(SerialBus bus, int node, boolean hold) {
        StringBuilder places = new StringBuilder().append(bus.about(node, Stories.PLACE));
        bus.plug(node, 0, 11, 0);
        for (int contest = 0; contest < 16; contest++) {
            bus.reset(11, 0, hold, false);
            bus.tick(1);
            places.append(' ').append(bus.about(node, Stories.PLACE));
        }
        return places.toString();
    }

    /** The channel on which NODE 11 hears the NODE, and the greatest WORD 6 with which it does. */
    private static String talk(SerialBus bus, int node) {
        makeEndOfThree(bus, node);
        bus.reset(11, 0, false, true);
        bus.time(60);
        bus.tick(1);
        int channel = 0;
        for (int bit = 1; bit < 32; bit *= 2) {
            channel += bit * heard(bus, node, 0, freeChannelsWithout(bit));
        }
        int left = 0;
        for (int more = 64; more > 0; more /= 2) {
            left += more * heard(bus, node, left + more, 0);
        }
        return heard(bus, node, left, 0) + " on " + channel + " beside " + left;
    }

    /** WORD 7 if all channels with this bit in their number are taken. */
    private static int freeChannelsWithout(int bit) {
        int free = 0;
        for (int channel = 0; channel < 32; channel++) {
            free |= (channel & bit) == 0 ? 1 << channel : 0;
        }
        return free;
    }

    /** How many PACKETS NODE 11 hears in a CYCLE with these WORDS 6 and 7 of the MANAGER. */
    private static int heard(SerialBus bus, int node, int word6, int word7) {
        int manager = bus.about(node, Stories.MANAGER);
        bus.ask(manager, manager, Stories.WRITE, 6, 0, word6);
        bus.ask(manager, manager, Stories.WRITE, 7, 0, word7);
        bus.tick(8);
        int before = bus.about(11, Stories.HEARD);
        bus.tick(8);
        return bus.about(11, Stories.HEARD) - before;
    }

    /** How many TICKS a REQUEST waits in a BUS that is LOOPED. */
    private static int time(SerialBus bus) {
        bus.plug(8, 0, 9, 0);
        bus.tick(1);
        bus.ask(8, 9, Stories.READ, 0, 0, 0);
        int ticks = 0;
        while (bus.ended(8, 0) == Stories.WAITS && ticks < 100) {
            bus.tick(1);
            ticks++;
        }
        return ticks;
    }
}
