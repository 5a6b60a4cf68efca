/** Promise 5. */
public final class AskTest {
    public static void main(String[] args) {
        givesTheLeastLabel();
        anEndedRequestMakesRoom();
        standsAtTheEndOfTheQueue();
        doesTheWork();
        refusesNodes();
        refusesWorkAndWord();
        refusesFifthRequest();
        refusesWhenTheQueueIsFull();
        Due.finish();
    }

    private static void givesTheLeastLabel() {
        SerialBus bus = Stories.three();
        for (int label = 0; label < 4; label++) {
            Due.is("label", bus.ask(0, 1, Stories.READ, label, 0, 0), label);
            Due.is("packets", bus.about(0, Stories.PACKETS), label + 1);
            Due.is("waiting", bus.about(0, Stories.WAITING), label + 1);
            Due.is("it waits", bus.ended(0, label), Stories.WAITS);
        }
        Due.is("another node has its own labels", bus.ask(1, 0, Stories.READ, 0, 0, 0), 0);
    }

    private static void anEndedRequestMakesRoom() {
        SerialBus bus = Stories.three();
        bus.ask(0, 5, Stories.READ, 0, 0, 0);
        bus.ask(0, 1, Stories.READ, 0, 0, 0);
        bus.tick(1);
        Due.is("label 0 has ended", bus.ended(0, 0), Stories.NOBODY);
        Due.is("label 0 before the free 2", bus.ask(0, 1, Stories.READ, 0, 0, 0), 0);
        Due.is("the old end is gone", bus.ended(0, 0), Stories.WAITS);
        Due.is("then 2", bus.ask(0, 1, Stories.READ, 0, 0, 0), 2);
    }

    private static void standsAtTheEndOfTheQueue() {
        SerialBus bus = Stories.three();
        bus.ask(0, 2, Stories.WRITE, 0, 0, 1);
        bus.ask(0, 2, Stories.WRITE, 0, 0, 2);
        bus.tick(1);
        Due.is("the first is sent first", bus.word(2, 0), 1);
        bus.tick(3);
        Due.is("then the second", bus.word(2, 0), 2);
    }

    private static void doesTheWork() {
        Due.is("write", answer(Stories.WRITE, 5, 9, 77), "0 77");
        Due.is("read", answer(Stories.READ, 7, 9, 77), "-1 -1");
        Due.is("swap that fits", answer(Stories.SWAP, 6, 100, -5), "100 -5");
        Due.is("swap that does not", answer(Stories.SWAP, 6, 99, -5), "100 100");
        Due.is("swap of word 0", answer(Stories.SWAP, 0, 0, Integer.MIN_VALUE), "0 -2147483648");
        Due.is("write any int", answer(Stories.WRITE, 0, Integer.MIN_VALUE, Integer.MAX_VALUE), "0 2147483647");
        Due.is("read with any ints", answer(Stories.READ, 6, Integer.MAX_VALUE, Integer.MIN_VALUE), "100 100");
    }

    private static String answer(int work, int w, int x, int v) {
        SerialBus bus = Stories.three();
        bus.ask(0, 2, work, w, x, v);
        bus.tick(2);
        return bus.value(0, 0) + " " + bus.word(2, w);
    }

    private static void refusesNodes() {
        for (int no : Due.NO_NODES) {
            nothing("ask of a " + no, Due.NO_NODE, no, 0, 0, 0);
            nothing("ask to b " + no, Due.NO_NODE, 7, no, 0, 0);
            nothing("ask: no node before no work", Due.NO_NODE, 7, no, 3, 8);
        }
    }

    private static void refusesWorkAndWord() {
        int[] noWorks = {-1, 3, Integer.MIN_VALUE, Integer.MAX_VALUE};
        for (int no : noWorks) {
            nothing("ask work " + no, Due.ARGUMENT, 7, 8, no, 0);
        }
        int[] noWords = {-1, 8, Integer.MIN_VALUE, Integer.MAX_VALUE};
        for (int no : noWords) {
            nothing("ask word " + no, Due.ARGUMENT, 7, 8, 0, no);
        }
    }

    private static void nothing(
            String what, Class<? extends RuntimeException> due, int a, int b, int work, int w) {
        Due.failsAndChangesNothing(what, due, Stories::mixed, bus -> bus.ask(a, b, work, w, 0, 5));
    }

    private static void fourOfSeven(SerialBus bus) {
        Stories.mixed(bus);
        for (int label = 0; label < 4; label++) {
            bus.ask(7, 7, Stories.WRITE, label, 0, 1);
        }
    }

    private static void refusesFifthRequest() {
        Due.failsAndChangesNothing(
                "all labels wait", Due.STATE, AskTest::fourOfSeven, bus -> bus.ask(7, 7, 1, 5, 0, 1));
        Due.failsAndChangesNothing(
                "no word before all wait", Due.ARGUMENT, AskTest::fourOfSeven, bus -> bus.ask(7, 7, 1, 8, 0, 1));
    }

    /** NODE 0's QUEUE comes to hold three REQUESTS of its own and three ANSWERS. */
    private static void fullQueue(SerialBus bus) {
        for (int node = 0; node < 4; node++) {
            bus.plug(node, 1, node + 1, 0);
        }
        bus.reset(4, 0, true, false);
        bus.tick(1);
        for (int node = 1; node < 4; node++) {
            bus.ask(node, 0, Stories.READ, 0, 0, 0);
        }
        for (int label = 0; label < 3; label++) {
            bus.ask(0, 0, Stories.WRITE, 0, 0, label);
        }
        bus.tick(3);
    }

    private static void refusesWhenTheQueueIsFull() {
        SerialBus bus = new SerialBus();
        fullQueue(bus);
        Due.is("packets", bus.about(0, Stories.PACKETS), 6);
        Due.is("waiting", bus.about(0, Stories.WAITING), 3);
        Due.failsAndChangesNothing(
                "the queue is full", Due.UNSUPPORTED, AskTest::fullQueue, b -> b.ask(0, 1, 0, 0, 0, 0));
        Due.failsAndChangesNothing(
                "no word before full", Due.ARGUMENT, AskTest::fullQueue, b -> b.ask(0, 1, 0, -1, 0, 0));
        Due.failsAndChangesNothing(
                "all wait before full", Due.STATE, AskTest::fullQueueOfFour, b -> b.ask(0, 1, 0, 0, 0, 0));
    }

    /** NODE 0's QUEUE comes to hold four REQUESTS of its own and two ANSWERS. */
    private static void fullQueueOfFour(SerialBus bus) {
        for (int node = 0; node < 2; node++) {
            bus.plug(node, 1, node + 1, 0);
        }
        bus.tick(1);
        bus.ask(1, 0, Stories.READ, 0, 0, 0);
        bus.ask(2, 0, Stories.READ, 0, 0, 0);
        for (int label = 0; label < 4; label++) {
            bus.ask(0, 0, Stories.WRITE, 0, 0, label);
        }
        bus.tick(2);
    }
}
