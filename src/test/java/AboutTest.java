/** Promise 11. */
public final class AboutTest {
    public static void main(String[] args) {
        numberIsNoneWhileDirtyOrLooped();
        numberIsNoneAfterEachChange();
        treeIsThatOfTheLastReset();
        loopedHasNoTree();
        noManagerWithoutContender();
        packetsAndWaiting();
        packetsFromNoneToSix();
        waitingFromNoneToFour();
        heardIsForAllChannels();
        placeFromTheFirstToTheLast();
        used();
        changesNothing();
        refusesOthers();
        Due.finish();
    }

    private static void numberIsNoneWhileDirtyOrLooped() {
        SerialBus bus = Stories.chain(3);
        Due.is("before the first reset", bus.about(1, 0), -1);
        bus.tick(1);
        Due.is("number of 0", bus.about(0, 0), 0);
        Due.is("number of 1", bus.about(1, 0), 2);
        Due.is("number of 2", bus.about(2, 0), 1);
        bus.reset(0, 0, false, false);
        Due.is("number of 2 while dirty", bus.about(2, 0), -1);
        bus.tick(1);
        Due.is("number of 2 again", bus.about(2, 0), 1);
        bus.plug(0, 0, 2, 1);
        bus.tick(1);
        Due.is("number of 2 while looped", bus.about(2, 0), -1);
    }

    /** "-1 if its BUS is .. DIRTY since", by a PORT plugged or unplugged or a reset of any NODE. */
    private static void numberIsNoneAfterEachChange() {
        SerialBus plugged = Stories.three();
        plugged.plug(2, 2, 11, 0);
        numbers("plugged", plugged, -1, -1, -1, 0, -1);
        SerialBus unplugged = Stories.three();
        unplugged.unplug(1, 0);
        numbers("unplugged", unplugged, -1, -1, -1, 0, 0);
        SerialBus reset = Stories.three();
        reset.reset(2, 0, false, false);
        numbers("reset", reset, -1, -1, -1, 0, 0);
        SerialBus other = Stories.three();
        other.ask(0, 1, Stories.READ, 0, 0, 0);
        other.talk(0, 1, 1);
        other.time(2);
        numbers("nothing of these", other, 0, 2, 1, 0, 0);
    }

    /** NUMBERS of NODES 0 .. 3 and 11. */
    private static void numbers(String what, SerialBus bus, int... due) {
        int[] nodes = {0, 1, 2, 3, 11};
        for (int i = 0; i < nodes.length; i++) {
            Due.is(what + ": number of " + nodes[i], bus.about(nodes[i], 0), due[i]);
        }
    }

    private static void treeIsThatOfTheLastReset() {
        SerialBus bus = Stories.threeManaged();
        bus.unplug(2, 0);
        bus.plug(2, 0, 9, 0);
        Due.is("parent of 2 as found", bus.about(2, 1), 1);
        Due.is("root of 2 as found", bus.about(2, 2), 1);
        Due.is("manager of 2 as found", bus.about(2, 3), 0);
        Due.is("root of 9 as found", bus.about(9, 2), 9);
        Due.is("parent of 1", bus.about(1, 1), -1);
        bus.reset(2, 1, false, false);
        bus.reset(0, 1, false, false);
        bus.tick(1);
        Due.is("parent of 2 now", bus.about(2, 1), -1);
        Due.is("parent of 9 now", bus.about(9, 1), 2);
        Due.is("root of 9 now", bus.about(9, 2), 2);
        Due.is("manager of 2 now", bus.about(2, 3), -1);
        Due.is("parent of 1 now", bus.about(1, 1), 0);
        Due.is("root of 1 now", bus.about(1, 2), 0);
        Due.is("manager of 1 now", bus.about(1, 3), -1);
    }

    private static void loopedHasNoTree() {
        SerialBus bus = Stories.threeManaged();
        bus.plug(0, 0, 3, 0);
        bus.reset(1, 1, false, false);
        bus.tick(1);
        Due.is("manager", bus.about(3, 3), 0);
        bus.plug(0, 2, 1, 2);
        bus.tick(1);
        for (int node = 0; node < 4; node++) {
            for (int what = 0; what < 4; what++) {
                Due.is("about(" + node + ", " + what + "), looped", bus.about(node, what), -1);
            }
        }
    }

    /** "3 the MANAGER .. -1 none", while there is a ROOT. */
    private static void noManagerWithoutContender() {
        SerialBus bus = Stories.three();
        Due.is("root", bus.about(0, 2), 1);
        Due.is("no manager", bus.about(0, 3), -1);
    }

    private static void packetsAndWaiting() {
        SerialBus bus = Stories.three();
        bus.ask(0, 2, Stories.READ, 0, 0, 0);
        bus.ask(0, 2, Stories.READ, 0, 0, 0);
        bus.tick(1);
        Due.is("packets of 0", bus.about(0, 4), 1);
        Due.is("packets of 2", bus.about(2, 4), 1);
        Due.is("waiting of 0", bus.about(0, 7), 2);
        Due.is("waiting of 2", bus.about(2, 7), 0);
        bus.tick(1);
        Due.is("waiting of 0, one done", bus.about(0, 7), 1);
        Due.is("packets of 2, sent", bus.about(2, 4), 0);
    }

    /** "a QUEUE of at most 6 PACKETS". */
    private static void packetsFromNoneToSix() {
        for (int answers = 0; answers <= 3; answers++) {
            for (int requests = 0; requests <= 3; requests++) {
                SerialBus bus = new SerialBus();
                Stories.crowded(bus, requests, answers);
                String what = requests + " requests and " + answers + " answers";
                Due.is(what, bus.about(0, 4), requests + answers);
                Due.is(what + ": waiting", bus.about(0, 7), requests);
            }
        }
    }

    /** "four LABELS": those that ended do not count. */
    private static void waitingFromNoneToFour() {
        SerialBus bus = Stories.pair(0, 0);
        for (int label = 0; label < 4; label++) {
            Due.is("waiting before label " + label, bus.about(0, 7), label);
            bus.time(5 - label);
            bus.ask(0, 1, Stories.READ, 0, 0, 0);
        }
        bus.tick(1);
        for (int waiting = 3; waiting >= 0; waiting--) {
            Due.is("waiting", bus.about(0, 7), waiting + 1);
            bus.tick(1);
            Due.is("one is late", bus.about(0, 7), waiting);
        }
    }

    /** "how many PACKETS of each channel it HEARD is counted for all channels together". */
    private static void heardIsForAllChannels() {
        SerialBus bus = Stories.threeManaged(0, 0);
        bus.talk(0, 0, 1);
        bus.talk(1, 31, 1);
        bus.talk(2, 31, 1);
        for (int cycle = 1; cycle <= 5; cycle++) {
            bus.tick(8);
            for (int node = 0; node < 3; node++) {
                Due.is("heard by " + node, bus.about(node, 5), 2 * cycle);
            }
        }
        Due.is("heard by another bus", bus.about(3, 5), 0);
        bus.reset(0, 0, false, false);
        bus.tick(1);
        Due.is("heard, after a reset", bus.about(0, 5), 10);
    }

    /** "6 its place in its BITS": 0 .. 15, and behind the last the first again. */
    private static void placeFromTheFirstToTheLast() {
        for (int bit = 0; bit < 16; bit++) {
            SerialBus bus = Stories.pair(1 << bit, 0);
            Due.is("place behind bit " + bit, bus.about(1, 6), bit == 15 ? 0 : bit + 1);
        }
    }

    private static void used() {
        SerialBus bus = Stories.three();
        bus.ask(0, 2, Stories.READ, 0, 0, 0);
        Due.is("not used", bus.about(0, 8), 0);
        bus.tick(1);
        Due.is("used", bus.about(0, 8), 1);
        Due.is("2 is not", bus.about(2, 8), 0);
        bus.tick(3);
        Due.is("used while nobody has packets", bus.about(0, 8), 1);
        bus.reset(2, 0, false, false);
        bus.tick(1);
        Due.is("not after a reset", bus.about(0, 8), 0);
    }

    private static void changesNothing() {
        Due.tellsAndChangesNothing("about", Stories::mixed, bus -> {
            for (int what = 0; what <= 8; what++) {
                bus.about(1, what);
                bus.about(5, what);
            }
        });
    }

    /** "IllegalArgumentException: another what." */
    private static void refusesOthers() {
        for (int no : Due.outside(0, 8)) {
            nothing("about what " + no, 1, no);
            nothing("about what " + no + " of the first node", 0, no);
            nothing("about what " + no + " of the last node", 11, no);
        }
    }

    private static void nothing(String what, int a, int n) {
        Due.failsAndChangesNothing(what, Due.ARGUMENT, Stories::mixed, bus -> bus.about(a, n));
    }
}
