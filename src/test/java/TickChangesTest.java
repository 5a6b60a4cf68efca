import java.util.ArrayList;
import java.util.List;
import java.util.function.Consumer;
import java.util.stream.Stream;

/**
 * What each thing that is done in a TICK changes: all that the terms say, and nothing else, told at
 * once or hidden, of the NODES that have to do with it or of others.
 */
public final class TickChangesTest {
    private static final List<Consumer<SerialBus>> RICH =
            List.of(Stories::rich, Stories::richWithOtherMarks);

    public static void main(String[] args) {
        for (Consumer<SerialBus> rich : RICH) {
            nothingToSend(rich);
            usedIsTaken(rich);
            requests(rich);
            requestsToItself(rich);
            answers(rich);
            answersWithoutEffect(rich);
            nobody(rich);
            nobodyWhoIsDirty(rich);
            busyToTheFirst(rich);
            busyToTheLast(rich);
            late(rich);
            cycle(rich);
            looped(rich);
        }
        busyBehindTheFull();
        resetOfNodesAlone();
        resetOfABus();
        Due.finish();
    }

    private static void tick(SerialBus bus) {
        bus.tick(1);
    }

    /** All are USED behind rich, so that the first SLOT takes that from all. */
    private static void nothingToSend(Consumer<SerialBus> rich) {
        Changes.only("nothing to send", rich, TickChangesTest::tick, "count(2)=91");
    }

    private static void usedIsTaken(Consumer<SerialBus> rich) {
        Changes.only("used is taken", rich.andThen(bus -> askInARing(bus, 1)), TickChangesTest::tick,
                "count(2)=91", "count(6)=34", "about(0, 8)=0", "about(1, 8)=0", "about(2, 8)=0");
    }

    /** 0 asks 1, 1 asks 2, 2 asks 0 to write, and then each itself until all four LABELS wait. */
    private static void askInARing(SerialBus bus, int work) {
        for (int node = 0; node < 3; node++) {
            int next = (node + 1) % 3;
            bus.ask(node, next, work, 3, 10 * next + 4, 99);
            for (int label = 1; label < 4; label++) {
                bus.ask(node, node, Stories.READ, 0, 0, 0);
            }
        }
    }

    /** The turns are those of 1, 2 and 0, by their NUMBERS. */
    private static void requests(Consumer<SerialBus> rich) {
        request("read", rich, Stories.READ, 1, "count(2)=92", "count(4)=69",
                "about(1, 4)=3", "about(1, 8)=1", "about(2, 4)=5");
        for (int work = Stories.WRITE; work <= Stories.SWAP; work++) {
            String what = "work " + work;
            request(what, rich, work, 1, "count(2)=92", "count(4)=69",
                    "about(1, 4)=3", "about(1, 8)=1", "about(2, 4)=5", "word(2, 3)=99");
            request(what, rich, work, 2, "count(2)=93", "count(4)=70",
                    "about(0, 4)=5", "word(0, 3)=99", "about(2, 4)=4", "about(2, 8)=1");
            request(what, rich, work, 3, "count(2)=94", "count(4)=71",
                    "about(0, 4)=4", "about(0, 8)=1", "about(1, 4)=4", "word(1, 3)=99");
        }
        Changes.only("swap of another value", rich.andThen(bus -> {
            bus.ask(1, 0, Stories.SWAP, 3, 5, 99);
            bus.tick(1);
        }), TickChangesTest::tick,
                "count(2)=92", "count(4)=69", "about(0, 4)=1", "about(1, 4)=0", "about(1, 8)=1");
    }

    private static void request(
            String what, Consumer<SerialBus> rich, int work, int turn, String... due) {
        Changes.only(what + ", turn " + turn, rich.andThen(bus -> {
            askInARing(bus, work);
            bus.tick(turn);
        }), TickChangesTest::tick, due);
    }

    private static void requestsToItself(Consumer<SerialBus> rich) {
        for (int node = 0; node < 4; node++) {
            int a = node;
            Changes.only("request of " + a + " to itself", rich.andThen(bus -> {
                bus.ask(a, a, Stories.WRITE, 3, 0, 99);
                bus.tick(1);
            }), TickChangesTest::tick,
                    "count(2)=92", "count(4)=69", "about(" + a + ", 8)=1", "word(" + a + ", 3)=99");
        }
    }

    /** NODE b has the ANSWER for a, and then four REQUESTS of its own. */
    private static Consumer<SerialBus> asked(Consumer<SerialBus> rich, int a, int b) {
        return rich.andThen(bus -> {
            bus.ask(a, b, Stories.READ, 3, 0, 0);
            bus.tick(2);
            bus.time(50);
            for (int label = 0; label < 4; label++) {
                bus.ask(b, b, Stories.WRITE, label, 0, 99);
            }
        });
    }

    private static void answers(Consumer<SerialBus> rich) {
        Changes.only("answer of 1", asked(rich, 0, 1), TickChangesTest::tick,
                "count(2)=93", "count(4)=70",
                "about(0, 7)=0", "ended(0, 0)=0", "about(1, 4)=4", "about(1, 8)=1");
        Changes.only("answer of 0", asked(rich, 1, 0), TickChangesTest::tick,
                "count(2)=93", "count(4)=70",
                "about(0, 4)=4", "about(0, 8)=1", "about(1, 7)=0", "ended(1, 0)=0");
        Changes.only("answer of 2", asked(rich, 0, 2), TickChangesTest::tick,
                "count(2)=93", "count(4)=70",
                "about(0, 7)=0", "ended(0, 0)=0", "about(2, 4)=4", "about(2, 8)=1");
        Changes.only("answer of 3", rich.andThen(bus -> {
            bus.ask(3, 3, Stories.READ, 0, 0, 0);
            bus.tick(3);
        }), TickChangesTest::tick, "count(2)=94", "count(4)=70",
                "about(3, 4)=0", "about(3, 7)=0", "about(3, 8)=1", "ended(3, 0)=0");
    }

    /** The REQUEST is LATE when it is sent: the ANSWER is sent as any other, but ends nothing. */
    private static void answersWithoutEffect(Consumer<SerialBus> rich) {
        for (int node = 0; node < 3; node++) {
            int a = (node + 1) % 3;
            int b = node;
            Consumer<SerialBus> story = asked(rich.andThen(bus -> bus.time(2)), a, b);
            String[] due = {
                "count(2)=93", "count(4)=70", "about(" + b + ", 4)=4", "about(" + b + ", 8)=1"
            };
            Changes.only("answer to a late one", story, TickChangesTest::tick, due);
            Changes.only("answer to one that is replaced",
                    story.andThen(bus -> bus.ask(a, b, Stories.READ, 0, 0, 0)),
                    TickChangesTest::tick, due);
        }
    }

    /** 0 - 1 - 2 is a ring, all four LABELS of each wait, and nothing is sent but by NODE 3. */
    private static void makeRing(SerialBus bus) {
        bus.plug(0, 0, 2, 1);
        bus.tick(1);
        askInARing(bus, Stories.READ);
    }

    private static void nobody(Consumer<SerialBus> rich) {
        for (int node = 0; node < 3; node++) {
            int a = node;
            Changes.only("nobody for " + a + ", asking 3", rich.andThen(bus -> {
                bus.ask(a, 3, Stories.WRITE, 3, 0, 99);
                bus.tick(1);
            }), TickChangesTest::tick, "count(2)=92", "count(4)=69", "about(" + a + ", 4)=0",
                    "about(" + a + ", 7)=0", "about(" + a + ", 8)=1", "ended(" + a + ", 0)=3");
            nobodyForThree("idle", rich, node);
            nobodyForThree("in a ring", rich.andThen(TickChangesTest::makeRing), node);
        }
    }

    /** Two REQUESTS of NODE 3 come to nobody; one to itself, between them, waits for its ANSWER. */
    private static void nobodyForThree(String where, Consumer<SerialBus> story, int b) {
        String what = "nobody for 3, asking " + b + " " + where;
        int clock = Changes.after(story).count(2);
        Consumer<SerialBus> asked = story.andThen(bus -> {
            for (int label = 0; label < 4; label++) {
                bus.ask(3, label % 2 == 0 ? b : 3, Stories.WRITE, 3, 0, 99);
            }
            bus.tick(1);
        });
        Changes.only(what, asked, TickChangesTest::tick, "count(2)=" + (clock + 2), "count(4)=69",
                "about(3, 4)=3", "about(3, 7)=3", "about(3, 8)=1", "ended(3, 0)=3");
        Changes.only(what + " again", asked.andThen(bus -> {
            bus.tick(4);
            bus.ask(3, 3, Stories.READ, 0, 0, 0);
        }), TickChangesTest::tick, "count(2)=" + (clock + 6), "count(4)=71",
                "about(3, 4)=3", "about(3, 7)=3", "about(3, 8)=1", "ended(3, 2)=3");
    }

    /** NODES 5 and 6 are DIRTY when 3 asks 5, and are RESET in the same TICK. */
    private static void nobodyWhoIsDirty(Consumer<SerialBus> rich) {
        Changes.only("nobody for 3, asking a dirty one", rich.andThen(bus -> {
            bus.ask(3, 5, Stories.WRITE, 3, 0, 99);
            bus.tick(1);
            bus.plug(5, 0, 6, 0);
            bus.unplug(5, 0);
        }), TickChangesTest::tick, "count(2)=92", "count(3)=14", "count(4)=69",
                "about(3, 4)=0", "about(3, 7)=0", "about(3, 8)=1", "ended(3, 0)=3",
                "about(5, 0)=0", "about(6, 0)=0");
    }

    /** The NODE fills its QUEUE with REQUESTS to itself and with ANSWERS to the two others. */
    private static void crowd(SerialBus bus, int full, int requestsOfOthers) {
        for (int label = 0; label < 4; label++) {
            for (int node = 0; node < 3; node++) {
                if (node == full || label < requestsOfOthers) {
                    bus.ask(node, full, Stories.WRITE, label, 0, 99);
                }
            }
        }
    }

    /** Each turn has four SLOTS: 1, 2 and 0 send, and USED is taken from all. CYCLES are at 96, 104. */
    private static void busyToTheFirst(Consumer<SerialBus> rich) {
        Consumer<SerialBus> full = rich.andThen(bus -> crowd(bus, 0, 4));
        Changes.only("1 is busy", full.andThen(bus -> bus.tick(5)), TickChangesTest::tick,
                "count(2)=96", "count(4)=72", "about(1, 8)=1");
        Changes.only("2 is busy", full.andThen(bus -> bus.tick(7)), TickChangesTest::tick,
                "count(2)=98", "count(4)=73", "about(2, 8)=1");
        Consumer<SerialBus> longer = rich.andThen(bus -> crowd(bus, 0, 2));
        Changes.only("1 is busy at last", longer.andThen(bus -> bus.tick(19)), TickChangesTest::tick,
                "count(2)=110", "count(4)=81",
                "about(1, 4)=0", "about(1, 7)=1", "about(1, 8)=1", "ended(1, 1)=2");
        Changes.only("2 is busy at last", longer.andThen(bus -> bus.tick(20)), TickChangesTest::tick,
                "count(2)=111", "count(4)=82",
                "about(2, 4)=0", "about(2, 7)=1", "about(2, 8)=1", "ended(2, 1)=2");
    }

    private static void busyToTheLast(Consumer<SerialBus> rich) {
        Consumer<SerialBus> full = rich.andThen(bus -> crowd(bus, 2, 4));
        Changes.only("1 is busy, too", full.andThen(bus -> bus.tick(5)), TickChangesTest::tick,
                "count(2)=96", "count(4)=72", "about(1, 8)=1");
        Changes.only("0 is busy", full.andThen(bus -> bus.tick(8)), TickChangesTest::tick,
                "count(2)=99", "count(4)=74", "about(0, 8)=1");
        Consumer<SerialBus> longer = rich.andThen(bus -> crowd(bus, 2, 2));
        Changes.only("1 is busy at last, too", longer.andThen(bus -> bus.tick(19)),
                TickChangesTest::tick, "count(2)=110", "count(4)=81",
                "about(1, 4)=0", "about(1, 7)=1", "about(1, 8)=1", "ended(1, 1)=2");
    }

    /**
     * A chain 0 - .. - 4 with NUMBERS as NODES: 3 fills its QUEUE, and in each turn it sends before 0
     * is BUSY. So it is USED when 0 sends the fourth time.
     */
    private static void busyBehindTheFull() {
        Changes.told("0 is busy at last", bus -> {
            Stories.crowded(bus, 0, 0);
            bus.ask(4, 3, Stories.READ, 0, 0, 0);
            bus.ask(2, 3, Stories.READ, 0, 0, 0);
            bus.ask(0, 3, Stories.WRITE, 0, 0, 99);
            for (int label = 0; label < 4; label++) {
                bus.ask(3, 3, Stories.READ, 0, 0, 0);
            }
            bus.tick(12);
        }, TickChangesTest::tick, "count(2)=14", "count(4)=10",
                "about(0, 4)=0", "about(0, 7)=0", "about(0, 8)=1", "ended(0, 0)=2");
    }

    /** All NODES ask in a TICK that only takes USED, and are LATE in a CYCLE. */
    private static void late(Consumer<SerialBus> rich) {
        for (int label = 0; label < 4; label++) {
            int late = label;
            String ended = ", " + late + ")=4";
            Changes.only("label " + late + " is late", rich.andThen(bus -> {
                bus.tick(5);
                for (int l = 0; l < 4; l++) {
                    bus.time(l == late ? 2 : 50);
                    for (int node = 0; node < 3; node++) {
                        bus.ask(node, 1, Stories.WRITE, 3, 0, 99);
                    }
                }
                bus.time(50);
                bus.tick(1);
            }), TickChangesTest::tick, "count(2)=97", "count(5)=14",
                    "about(0, 4)=3", "about(0, 5)=8", "about(0, 7)=3", "ended(0" + ended,
                    "about(1, 4)=3", "about(1, 5)=8", "about(1, 7)=3", "ended(1" + ended,
                    "about(2, 4)=3", "about(2, 5)=9", "about(2, 7)=3", "ended(2" + ended);
        }
    }

    /** What 0 .. 2 have in their QUEUES stays there. */
    private static void cycle(Consumer<SerialBus> rich) {
        Changes.only("cycle", rich.andThen(bus -> {
            bus.tick(5);
            askInARing(bus, Stories.WRITE);
            bus.tick(1);
        }), TickChangesTest::tick, "count(2)=97", "count(5)=14",
                "about(0, 5)=8", "about(1, 5)=8", "about(2, 5)=9");
        Changes.only("cycle of one talker", rich.andThen(bus -> {
            bus.talk(1, 0, 0);
            bus.talk(0, 8, 1);
            bus.tick(6);
        }), TickChangesTest::tick, "count(2)=97", "count(5)=12", "about(0, 5)=7", "about(1, 5)=7");
    }

    private static void looped(Consumer<SerialBus> rich) {
        Changes.only("looped", rich.andThen(TickChangesTest::makeRing), bus -> bus.tick(49),
                "count(2)=140");
    }

    /** Nobody takes BITS, so that all that is hidden stays. The CONTENDERS are MANAGERS alone. */
    private static void resetOfNodesAlone() {
        resetOfNodesAlone(Stories::rich,
                "about(0, 0)=0", "about(0, 1)=-1", "about(0, 2)=0", "about(0, 3)=0",
                "about(1, 0)=0", "about(1, 3)=-1",
                "about(2, 0)=0", "about(2, 1)=-1", "about(2, 2)=2");
        resetOfNodesAlone(Stories::richWithOtherMarks,
                "about(0, 0)=0", "about(0, 1)=-1", "about(0, 2)=0", "about(0, 3)=-1",
                "about(1, 0)=0",
                "about(2, 0)=0", "about(2, 1)=-1", "about(2, 2)=2", "about(2, 3)=2");
    }

    private static void resetOfNodesAlone(Consumer<SerialBus> rich, String... tree) {
        List<String> due = new ArrayList<>(List.of("count(2)=95", "count(3)=15"));
        for (int node = 0; node < 3; node++) {
            String begin = "about(" + node;
            due.addAll(Stream.of(tree).filter(change -> change.startsWith(begin)).toList());
            due.addAll(List.of(begin + ", 4)=0", begin + ", 7)=0", begin + ", 8)=0"));
            due.addAll(List.of("word(" + node + ", 6)=100", "word(" + node + ", 7)=-1"));
            for (int label = 0; label < 4; label++) {
                due.add("ended(" + node + ", " + label + ")=1");
            }
        }
        Changes.only("reset of nodes alone", rich.andThen(bus -> {
            askInARing(bus, Stories.WRITE);
            bus.tick(4);
            bus.unplug(1, 0);
            bus.unplug(1, 1);
        }), TickChangesTest::tick, due.toArray(new String[0]));
    }

    /** NODES 0 and 1 take one more of their BITS, and 0 is the ROOT then. */
    private static void resetOfABus() {
        Changes.told("reset of a bus", bus -> {
            Stories.rich(bus);
            askInARing(bus, Stories.WRITE);
            bus.tick(4);
            bus.plug(8, 0, 2, 2);
            bus.unplug(8, 0);
        }, TickChangesTest::tick, "count(2)=95", "count(3)=14",
                "about(0, 0)=2", "about(0, 1)=-1", "about(0, 2)=0", "about(0, 3)=0", "about(0, 4)=0",
                "about(0, 6)=5", "about(0, 7)=0", "about(0, 8)=0", "word(0, 6)=100", "word(0, 7)=-1",
                "ended(0, 0)=1", "ended(0, 1)=1", "ended(0, 2)=1", "ended(0, 3)=1",
                "about(1, 0)=1", "about(1, 1)=0", "about(1, 2)=0", "about(1, 3)=0", "about(1, 4)=0",
                "about(1, 6)=5", "about(1, 7)=0", "about(1, 8)=0", "word(1, 6)=100", "word(1, 7)=-1",
                "ended(1, 0)=1", "ended(1, 1)=1", "ended(1, 2)=1", "ended(1, 3)=1",
                "about(2, 0)=0", "about(2, 2)=0", "about(2, 3)=0", "about(2, 4)=0",
                "about(2, 7)=0", "about(2, 8)=0", "word(2, 6)=100", "word(2, 7)=-1",
                "ended(2, 0)=1", "ended(2, 1)=1", "ended(2, 2)=1", "ended(2, 3)=1",
                "about(8, 0)=0");
    }
}
