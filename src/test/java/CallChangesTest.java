import java.util.ArrayList;
import java.util.List;
import java.util.function.Consumer;

/**
 * What each call changes: all that its promise says, and nothing else, told at once or hidden. The
 * NODES have HOLD and are CONTENDERS or not, and they are idle, at work, DIRTY or LOOPED.
 */
public final class CallChangesTest {
    private static final List<Consumer<SerialBus>> RICH =
            List.of(Stories::rich, Stories::richWithOtherMarks);

    public static void main(String[] args) {
        richTellsWhatIsSaid();
        richHidesWhatIsSaid();
        for (Consumer<SerialBus> rich : RICH) {
            plug(rich);
            unplug(rich);
            for (int node = 0; node < 4; node++) {
                int a = node;
                Consumer<SerialBus> atWork = rich.andThen(Stories::atWork);
                others("idle", rich, a, 0);
                others("idle and dirty", rich.andThen(bus -> makeDirty(bus, a)), a, 0);
                others("at work", atWork, a, 0);
                others("at work and dirty", atWork.andThen(bus -> makeDirty(bus, a)), a, 0);
                others("one done", rich.andThen(CallChangesTest::oneDone), a, 0);
                others("looped", rich.andThen(CallChangesTest::makeLooped), a, 3);
            }
        }
        reset();
        Due.finish();
    }

    /** Else a fault might show in the story already, and nothing would differ behind it. */
    private static void richTellsWhatIsSaid() {
        SerialBus bus = Changes.after(Stories::rich);
        int[] counts = {2, 10, 90, 12, 68, 11, 33, 0};
        for (int what = 0; what < 8; what++) {
            Due.is("count(" + what + ")", bus.count(what), counts[what]);
        }
        int[][] about = {
            {0, 1, 1, 2, 0, 6, 4, 0, 1},
            {2, -1, 1, 2, 0, 6, 4, 0, 1},
            {1, 1, 1, 2, 0, 7, 2, 0, 1},
            {0, -1, 3, -1, 0, 1, 2, 0, 1},
        };
        for (int node = 0; node < 4; node++) {
            for (int what = 0; what < 9; what++) {
                Due.is("about(" + node + ", " + what + ")", bus.about(node, what), about[node][what]);
            }
            for (int word = 0; word < 7; word++) {
                Due.is("word " + word + " of " + node, bus.word(node, word), 10 * node + word + 1);
            }
            Due.is("word 7 of " + node, bus.word(node, 7), 0xF00 + node);
            for (int label = 0; label < 4; label++) {
                Due.is("label " + label + " of " + node, bus.ended(node, label), Stories.DONE);
            }
        }
    }

    private static void richHidesWhatIsSaid() {
        Due.is("hidden", Hidden.of(Stories::rich), List.of(
                "0 hold: true", "0 contender: true",
                "0 bits: 4 5 6 9 11 14 0 1 2 5 6 9 11 14 0 1 2", "0 talk: 1 on 3 beside 90",
                "1 hold: true", "1 contender: false",
                "1 bits: 4 6 7 10 12 13 15 1 4 6 7 10 12 13 15 1 4", "1 talk: 1 on 4 beside 83",
                "2 hold: false", "2 contender: true",
                "2 bits: 2 5 8 11 12 14 15 2 5 8 11 12 14 15 2 5 8", "2 talk: 1 on 5 beside 76",
                "3 hold: false", "3 contender: false",
                "3 bits: 2 4 10 11 13 14 4 10 11 13 14 4 10 11 13 14 4", "3 talk: 1 on 6 beside 69",
                "time: 50"));
        List<String> other = new ArrayList<>(Hidden.of(Stories::richWithOtherMarks));
        other.removeAll(Hidden.of(Stories::rich));
        Due.is("hidden, other marks", other, List.of(
                "0 hold: false", "0 contender: false", "0 bits: 2 5 6 9 11 14 0 1 2 5 6 9 11 14 0 1 2",
                "1 hold: false", "1 contender: true",
                "1 bits: 2 4 6 7 10 12 13 15 1 4 6 7 10 12 13 15 1"));
    }

    /** Only the NODE itself is so, of its BUS. */
    private static void makeDirty(SerialBus bus, int node) {
        bus.plug(node, 2, 7, 0);
        bus.unplug(node, 2);
    }

    /** LABEL 0 of NODES 0 .. 2 is DONE, the others wait. */
    private static void oneDone(SerialBus bus) {
        for (int label = 0; label < 4; label++) {
            for (int node = 0; node < 4; node++) {
                bus.ask(node, node, Stories.READ, label, 0, 0);
            }
        }
        bus.tick(24);
    }

    /** 0 - 1 - 2 is a ring, and 3 has two CABLES to 4; LABELS 0 .. 2 wait, 3 is DONE. */
    private static void makeLooped(SerialBus bus) {
        bus.plug(0, 0, 2, 1);
        bus.plug(3, 0, 4, 0);
        bus.plug(3, 1, 4, 1);
        bus.tick(1);
        for (int node = 0; node < 4; node++) {
            for (int label = 0; label < 3; label++) {
                bus.ask(node, 1, Stories.READ, label, 0, 0);
            }
        }
    }

    private static void plug(Consumer<SerialBus> rich) {
        Consumer<SerialBus> atWork = rich.andThen(Stories::atWork);
        String[] due = {
            "count(0)=3", "count(1)=9",
            "about(0, 0)=-1", "about(1, 0)=-1", "about(2, 0)=-1", "about(3, 0)=-1"
        };
        for (int node = 0; node < 3; node++) {
            int a = node;
            Changes.only("plug of " + a, atWork, bus -> bus.plug(a, 2, 3, 0), due);
            Changes.only("plug to " + a, atWork, bus -> bus.plug(3, 0, a, 2), due);
        }
        Changes.only("plug inside", atWork, bus -> bus.plug(2, 1, 0, 0),
                "count(0)=3", "about(0, 0)=-1", "about(1, 0)=-1", "about(2, 0)=-1");
        Consumer<SerialBus> looped = rich.andThen(CallChangesTest::makeLooped);
        Changes.only("plug of looped ones", looped, bus -> bus.plug(3, 2, 1, 2),
                "count(0)=6", "count(1)=8", "count(7)=0");
    }

    private static void unplug(Consumer<SerialBus> rich) {
        int[][] ends = {{0, 1}, {1, 0}, {1, 1}, {2, 0}};
        for (int[] end : ends) {
            String what = "unplug of port " + end[1] + " of " + end[0];
            Consumer<SerialBus> step = bus -> bus.unplug(end[0], end[1]);
            Changes.only(what, rich.andThen(Stories::atWork), step, "count(0)=1", "count(1)=11",
                    "about(0, 0)=-1", "about(1, 0)=-1", "about(2, 0)=-1");
            Changes.only(what + ", looped", rich.andThen(CallChangesTest::makeLooped), step,
                    "count(0)=4", "count(7)=1");
        }
    }

    /** "BITS become the 16 low bits .. place the first; HOLD and CONTENDER are set or not". */
    private static void reset() {
        String bits = " bits: 0 1 2 1 2 1 2 1 2 1 2 1 2 1 2 1 2";
        String[][] taken = {
            {"0 hold: false", "0 contender: false", "0" + bits},
            {"1 hold: false", "1" + bits},
            {"2 contender: false", "2" + bits},
            {"3" + bits},
        };
        String[][] set = {
            {"0 hold: true", "0 contender: true", "0" + bits},
            {"1 hold: true", "1" + bits},
            {"2 hold: true", "2" + bits},
            {"3 hold: true", "3 contender: true", "3" + bits},
        };
        for (int node = 0; node < 4; node++) {
            reset(Stories::rich, node, false, taken[node]);
            reset(Stories::richWithOtherMarks, node, true, set[node]);
        }
    }

    private static void reset(Consumer<SerialBus> rich, int node, boolean marks, String... due) {
        String what = "reset of " + node;
        Consumer<SerialBus> step = bus -> bus.reset(node, 0x10003, marks, marks);
        Changes.hidden(what, rich.andThen(Stories::atWork), step, due);
        List<String> told = new ArrayList<>();
        for (int other = 0; other < 4; other++) {
            if ((other < 3) == (node < 3)) {
                told.add("about(" + other + ", 0)=-1");
            }
            if (other == node) {
                told.add("about(" + node + ", 6)=0");
            }
        }
        Changes.told(what, rich.andThen(Stories::atWork), step, told.toArray(new String[0]));
        told.removeIf(change -> change.endsWith("=-1"));
        told.add(0, "count(7)=1");
        Changes.told(what + ", looped", rich.andThen(CallChangesTest::makeLooped), step,
                told.toArray(new String[0]));
    }

    /** The LABEL is the least that does not wait: it has ended. */
    private static void others(String where, Consumer<SerialBus> story, int node, int label) {
        String what = " of " + node + ", " + where;
        SerialBus before = Changes.after(story);
        Changes.only("ask" + what, story, bus -> bus.ask(node, 1, Stories.WRITE, 3, 0, 99),
                "about(" + node + ", 4)=" + (before.about(node, Stories.PACKETS) + 1),
                "about(" + node + ", 7)=" + (before.about(node, Stories.WAITING) + 1),
                "ended(" + node + ", " + label + ")=-1");
        Changes.only("ask to another" + what, story, bus -> bus.ask(10, node, Stories.READ, 0, 0, 0),
                "about(10, 4)=1", "about(10, 7)=1", "ended(10, 0)=-1");
        Changes.told("talk" + what, story, bus -> bus.talk(node, 31, 1));
        Changes.hidden("talk" + what, story, bus -> bus.talk(node, 31, 1),
                node + " talk: 1 on 31 beside 99");
        Changes.hidden("no talk" + what, story, bus -> bus.talk(node, 31, 0),
                node + " talk: 0 on 0 beside 0");
        Changes.told("time" + what, story, bus -> bus.time(2));
        Changes.hidden("time" + what, story, bus -> bus.time(2), "time: 2");
        Changes.only("value" + what, story, bus -> Due.answer(() -> bus.value(node, label)),
                "ended(" + node + ", " + label + ")=IllegalStateException");
        Changes.only("what only tells" + what, story, bus -> tellAll(bus, node));
    }

    private static void tellAll(SerialBus bus, int node) {
        for (int what = 0; what < 9; what++) {
            bus.about(node, what);
            bus.count(what);
            bus.word(node, what % 8);
            bus.ended(node, what % 4);
        }
    }
}
