/** Promise 5. */
public final class AskTest {
    private static final int[] NO_WORKS = Due.outside(0, 2);
    private static final int[] NO_WORDS = Due.outside(0, 7);

    public static void main(String[] args) {
        givesTheLeastLabel();
        anEndedRequestMakesRoom();
        oneOfFourEnds();
        standsAtTheEndOfTheQueue();
        doesTheWork();
        takesEveryWorkAndWord();
        asksAnyNode();
        refusesWork();
        refusesWord();
        refusesAFifthRequest();
        refusesASeventhPacket();
        refusesInOrder();
        Due.finish();
    }

    private static void givesTheLeastLabel() {
        SerialBus bus = Stories.three();
        for (int label = 0; label < 4; label++) {
            Due.is("label", bus.ask(0, 1, Stories.READ, label, 0, 0), label);
            Due.is("packets", bus.about(0, Stories.PACKETS), label + 1);
            Due.is("waiting", bus.about(0, Stories.WAITING), label + 1);
            Due.is("it waits", bus.ended(0, label), Stories.WAITS);
        }
        Due.is("another node has its own labels", bus.ask(1, 0, Stories.READ, 0, 0, 0), 0);
    }

    private static void anEndedRequestMakesRoom() {
        SerialBus bus = Stories.three();
        bus.ask(0, 5, Stories.READ, 0, 0, 0);
        bus.ask(0, 1, Stories.READ, 0, 0, 0);
        bus.tick(1);
        Due.is("label 0 has ended", bus.ended(0, 0), Stories.NOBODY);
        Due.is("label 0 before the free 2", bus.ask(0, 1, Stories.READ, 0, 0, 0), 0);
        Due.is("the old end is gone", bus.ended(0, 0), Stories.WAITS);
        Due.is("then 2", bus.ask(0, 1, Stories.READ, 0, 0, 0), 2);
    }

    /** "the least that does not wait", when all others do: each LABEL in turn. */
    private static void oneOfFourEnds() {
        for (int label = 0; label < 4; label++) {
            SerialBus bus = new SerialBus();
            bus.plug(0, 0, 1, 0);
            bus.tick(1);
            for (int other = 0; other < 4; other++) {
                bus.time(other == label ? 2 : 60);
                bus.ask(0, 1, Stories.READ, 0, 0, 0);
            }
            bus.tick(2);
            Due.is("label " + label + " is late", bus.ended(0, label), Stories.LATE);
            Due.is("label " + label + " again", bus.ask(0, 1, Stories.READ, 0, 0, 0), label);
            Due.fails("then all wait again", Due.STATE, () -> bus.ask(0, 1, Stories.READ, 0, 0, 0));
        }
    }

    private static void standsAtTheEndOfTheQueue() {
        SerialBus bus = Stories.three();
        bus.ask(0, 2, Stories.WRITE, 0, 0, 1);
        bus.ask(0, 2, Stories.WRITE, 0, 0, 2);
        bus.tick(1);
        Due.is("the first is sent first", bus.word(2, 0), 1);
        bus.tick(3);
        Due.is("then the second", bus.word(2, 0), 2);
    }

    private static void doesTheWork() {
        Due.is("write", answer(Stories.WRITE, 5, 9, 77), "0 77");
        Due.is("read", answer(Stories.READ, 7, 9, 77), "-1 -1");
        Due.is("swap that fits", answer(Stories.SWAP, 6, 100, -5), "100 -5");
        Due.is("swap that does not", answer(Stories.SWAP, 6, 99, -5), "100 100");
        Due.is("swap of word 0", answer(Stories.SWAP, 0, 0, Integer.MIN_VALUE), "0 -2147483648");
    }

    private static String answer(int work, int w, int x, int v) {
        SerialBus bus = Stories.three();
        bus.ask(0, 2, work, w, x, v);
        bus.tick(2);
        return bus.value(0, 0) + " " + bus.word(2, w);
    }

    /** "work 0 READ, 1 WRITE, 2 SWAP of WORD w 0 .. 7 with x and v (those not named any ints)". */
    private static void takesEveryWorkAndWord() {
        int[] anyInts = {Integer.MIN_VALUE, -1, 0, 101, Integer.MAX_VALUE};
        for (int w = 0; w < 8; w++) {
            int first = w == 6 ? 100 : w == 7 ? -1 : 0;
            for (int v : anyInts) {
                Due.is("read " + w, answer(Stories.READ, w, v, v), first + " " + first);
                Due.is("write " + w, answer(Stories.WRITE, w, v, v), "0 " + v);
                Due.is("swap " + w, answer(Stories.SWAP, w, first, v), first + " " + v);
                Due.is("swap " + w + " above", answer(Stories.SWAP, w, first + 1, v), first + " " + first);
                Due.is("swap " + w + " below", answer(Stories.SWAP, w, first - 1, v), first + " " + first);
            }
        }
    }

    /** a may be b, and b may be of another BUS: that is no matter for ask. */
    private static void asksAnyNode() {
        SerialBus bus = Stories.three();
        for (int b = 0; b < 12; b += 11) {
            Due.is("ask of 0 to " + b, bus.ask(0, b, Stories.READ, 0, 0, 0), b / 11);
        }
        SerialBus dirty = new SerialBus();
        Due.is("ask before the first tick", dirty.ask(4, 4, Stories.READ, 0, 0, 0), 0);
        Due.is("its packet", dirty.about(4, Stories.PACKETS), 1);
    }

    private static void refusesWork() {
        for (int no : NO_WORKS) {
            nothing("ask work " + no, 7, 8, no, 0);
            nothing("ask work " + no + " of the last word", 7, 8, no, 7);
            nothing("ask itself work " + no, 7, 7, no, 0);
        }
    }

    private static void refusesWord() {
        for (int no : NO_WORDS) {
            for (int work = 0; work < 3; work++) {
                nothing("ask work " + work + " of word " + no, 7, 8, work, no);
            }
            nothing("ask no work of word " + no, 7, 8, 3, no);
        }
    }

    private static void nothing(String what, int a, int b, int work, int w) {
        Due.failsAndChangesNothing(
                what, Due.ARGUMENT, Stories::mixed, bus -> bus.ask(a, b, work, w, 0, 5));
    }

    /** "IllegalStateException: all four wait." */
    private static void refusesAFifthRequest() {
        Due.failsAndChangesNothing(
                "all labels wait", Due.STATE, Stories::allWait, bus -> bus.ask(7, 7, 1, 5, 0, 1));
        Due.failsAndChangesNothing(
                "one is sent", Due.STATE, AskTest::threeInTheQueue, bus -> bus.ask(1, 0, 0, 0, 0, 0));
    }

    private static void threeInTheQueue(SerialBus bus) {
        bus.plug(0, 1, 1, 0);
        bus.plug(1, 1, 2, 0);
        bus.tick(1);
        for (int label = 0; label < 4; label++) {
            bus.ask(1, 0, Stories.READ, 0, 0, 0);
        }
        bus.tick(1);
    }

    /** "UnsupportedOperationException: the QUEUE is full": six PACKETS, of which three are its own. */
    private static void refusesASeventhPacket() {
        SerialBus bus = new SerialBus();
        Stories.crowded(bus, 2, 3);
        Due.is("five packets", bus.about(0, Stories.PACKETS), 5);
        Due.is("a sixth", bus.ask(0, 1, Stories.READ, 0, 0, 0), 2);
        Due.is("six packets", bus.about(0, Stories.PACKETS), 6);
        Due.is("three wait", bus.about(0, Stories.WAITING), 3);
        Due.fails("a seventh", Due.UNSUPPORTED, () -> bus.ask(0, 1, Stories.READ, 0, 0, 0));
        Due.failsAndChangesNothing(
                "the queue is full", Due.UNSUPPORTED, Stories::fullOfThree, b -> b.ask(0, 1, 0, 0, 0, 0));
        Due.failsAndChangesNothing(
                "full, an end", Due.UNSUPPORTED, AskTest::fullWithAnEnd, b -> b.ask(0, 1, 0, 0, 0, 0));
        Due.failsAndChangesNothing(
                "full, to itself", Due.UNSUPPORTED, Stories::fullOfThree, b -> b.ask(0, 0, 1, 7, 0, 0));
    }

    /** As Stories.fullOfThree, and NODE 0's LABEL 3 has ended. */
    private static void fullWithAnEnd(SerialBus bus) {
        for (int node = 0; node < 4; node++) {
            bus.plug(node, 1, node + 1, 0);
        }
        bus.reset(4, 0, true, false);
        bus.tick(1);
        for (int label = 0; label < 4; label++) {
            bus.ask(0, 9, Stories.READ, 0, 0, 0);
        }
        bus.tick(8);
        for (int node = 0; node < 3; node++) {
            bus.ask(0, 0, Stories.READ, 0, 0, 0);
            bus.ask(1 + node, 0, Stories.READ, 0, 0, 0);
        }
        bus.tick(3);
    }

    /** Node before argument before state before operation. NodeNumbersTest has the first. */
    private static void refusesInOrder() {
        for (int no : NO_WORKS) {
            Due.failsAndChangesNothing(
                    "no work, all wait", Due.ARGUMENT, Stories::allWait, b -> b.ask(7, 7, no, 0, 0, 1));
            Due.failsAndChangesNothing(
                    "no work, full", Due.ARGUMENT, Stories::fullOfThree, b -> b.ask(0, 1, no, 0, 0, 0));
        }
        for (int no : NO_WORDS) {
            Due.failsAndChangesNothing(
                    "no word, all wait", Due.ARGUMENT, Stories::allWait, b -> b.ask(7, 7, 1, no, 0, 1));
            Due.failsAndChangesNothing(
                    "no word, full", Due.ARGUMENT, Stories::fullOfThree, b -> b.ask(0, 1, 0, no, 0, 0));
        }
        Due.failsAndChangesNothing(
                "all wait and full", Due.STATE, Stories::fullOfFour, b -> b.ask(0, 1, 0, 0, 0, 0));
        Due.failsAndChangesNothing(
                "no word, both", Due.ARGUMENT, Stories::fullOfFour, b -> b.ask(0, 1, 0, 8, 0, 0));
    }
}
