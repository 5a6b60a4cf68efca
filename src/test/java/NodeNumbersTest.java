import java.util.function.Consumer;

/**
 * "NODES 0 .. 11" and "Numbers that are no NODE: NoSuchElementException, before all else", for
 * every call that takes a NODE.
 */
public final class NodeNumbersTest {
    private interface Call {
        int on(SerialBus bus, int node);
    }

    public static void main(String[] args) {
        theFirstAndTheLastAreNodes();
        othersAreNone();
        othersAreNoneBeforeAllElse();
        othersAreNoneBeforeWhatIsFullOrFree();
        Due.finish();
    }

    /** One BUS of all NODES; 0 and 11 have a REQUEST at LABEL 0 that is DONE with value 100. */
    private static void allInOne(SerialBus bus) {
        for (int node = 0; node < 11; node++) {
            bus.plug(node, 1, node + 1, 0);
        }
        bus.reset(6, 1, false, false);
        bus.tick(1);
        bus.ask(0, 11, Stories.READ, 6, 0, 0);
        bus.ask(11, 0, Stories.READ, 6, 0, 0);
        bus.tick(7);
    }

    private static int done(Runnable call) {
        call.run();
        return 0;
    }

    private static void theFirstAndTheLastAreNodes() {
        isNode("plug, a", (bus, node) -> bus.plug(node, 2, 5, 2), 12, 12);
        isNode("plug, b", (bus, node) -> bus.plug(5, 2, node, 2), 12, 12);
        isNode("unplug", (bus, node) -> bus.unplug(node, node == 0 ? 1 : 0), 1, 10);
        isNode("reset", (bus, node) -> done(() -> bus.reset(node, 1, true, true)), 0, 0);
        isNode("ask, a", (bus, node) -> bus.ask(node, 5, 0, 0, 0, 0), 0, 0);
        isNode("ask, b", (bus, node) -> bus.ask(5, node, 0, 0, 0, 0), 0, 0);
        isNode("talk", (bus, node) -> done(() -> bus.talk(node, 1, 1)), 0, 0);
        isNode("ended", (bus, node) -> bus.ended(node, 0), Stories.DONE, Stories.DONE);
        isNode("value", (bus, node) -> bus.value(node, 0), 100, 100);
        isNode("about", (bus, node) -> bus.about(node, Stories.PARENT), 1, 10);
        isNode("word", (bus, node) -> bus.word(node, 6), 100, 100);
    }

    private static void isNode(String what, Call call, int dueOfFirst, int dueOfLast) {
        SerialBus first = new SerialBus();
        allInOne(first);
        Due.is(what + " 0", call.on(first, 0), dueOfFirst);
        SerialBus last = new SerialBus();
        allInOne(last);
        Due.is(what + " 11", call.on(last, 11), dueOfLast);
    }

    private static void othersAreNone() {
        isNone("plug, a", (bus, node) -> bus.plug(node, 2, 5, 2));
        isNone("plug, b", (bus, node) -> bus.plug(5, 2, node, 2));
        isNone("unplug", (bus, node) -> bus.unplug(node, 0));
        isNone("reset", (bus, node) -> done(() -> bus.reset(node, 1, true, true)));
        isNone("ask, a", (bus, node) -> bus.ask(node, 5, 0, 0, 0, 0));
        isNone("ask, b", (bus, node) -> bus.ask(5, node, 0, 0, 0, 0));
        isNone("talk", (bus, node) -> done(() -> bus.talk(node, 1, 1)));
        isNone("ended", (bus, node) -> bus.ended(node, 0));
        isNone("value", (bus, node) -> bus.value(node, 0));
        isNone("about", (bus, node) -> bus.about(node, 0));
        isNone("word", (bus, node) -> bus.word(node, 0));
    }

    private static void othersAreNoneBeforeAllElse() {
        isNone("plug, a, no ports", (bus, node) -> bus.plug(node, -1, 5, 3));
        isNone("plug, b, no ports", (bus, node) -> bus.plug(5, 3, node, -1));
        isNone("plug, a and b the same", (bus, node) -> bus.plug(node, 0, node, 1));
        isNone("plug, a, b's port in use", (bus, node) -> bus.plug(node, 0, 5, 0));
        isNone("plug, b, a's port in use", (bus, node) -> bus.plug(5, 0, node, 0));
        isNone("unplug, no port below", (bus, node) -> bus.unplug(node, -1));
        isNone("unplug, no port above", (bus, node) -> bus.unplug(node, 3));
        isNone("ask, a, no work", (bus, node) -> bus.ask(node, 5, 3, 0, 0, 0));
        isNone("ask, b, no work", (bus, node) -> bus.ask(5, node, -1, 0, 0, 0));
        isNone("ask, a, no word", (bus, node) -> bus.ask(node, 5, 0, 8, 0, 0));
        isNone("ask, b, no word", (bus, node) -> bus.ask(5, node, 0, -1, 0, 0));
        isNone("talk, no channel", (bus, node) -> done(() -> bus.talk(node, 32, 1)));
        isNone("talk, no bandwidth", (bus, node) -> done(() -> bus.talk(node, 1, 101)));
        isNone("ended, no label", (bus, node) -> bus.ended(node, 4));
        isNone("value, no label", (bus, node) -> bus.value(node, -1));
        isNone("about, nothing told", (bus, node) -> bus.about(node, 9));
        isNone("word, no word", (bus, node) -> bus.word(node, 8));
    }

    private static void isNone(String what, Call call) {
        isNone(what, NodeNumbersTest::allInOne, call);
    }

    private static void isNone(String what, Consumer<SerialBus> story, Call call) {
        for (int no : Due.NO_NODES) {
            Due.failsAndChangesNothing(what + " " + no, Due.NO_NODE, story, bus -> call.on(bus, no));
        }
    }

    private static void othersAreNoneBeforeWhatIsFullOrFree() {
        isNone("ask, b, all labels wait", Stories::allWait, (bus, node) -> bus.ask(7, node, 0, 0, 0, 0));
        isNone("ask, b, queue full", Stories::fullOfThree, (bus, node) -> bus.ask(0, node, 0, 0, 0, 0));
        isNone("ask, b, both", Stories::fullOfFour, (bus, node) -> bus.ask(0, node, 0, 0, 0, 0));
    }
}
