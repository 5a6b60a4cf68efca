import java.util.List;
import java.util.function.Supplier;

/** Promise 10. */
public final class ValueTest {
    public static void main(String[] args) {
        givesTheValueOnce();
        givesTheValueOfEveryLabel();
        givesAnyInt();
        theValueIsThatOfTheTimeOfTheWork();
        changesOnlyTheLabel();
        anotherEndThrowsAndFreesTheLabel();
        refusesLabels();
        refusesFreeLabels();
        refusesWaitingOnes();
        Due.finish();
    }

    private static void givesTheValueOnce() {
        SerialBus bus = Stories.three();
        bus.ask(0, 2, Stories.READ, 6, 0, 0);
        bus.tick(2);
        bus.ask(0, 2, Stories.READ, 7, 0, 0);
        Due.is("the first was not taken, so it is gone", bus.ended(0, 0), Stories.WAITS);
        bus.tick(3);
        Due.is("value", bus.value(0, 0), -1);
        Due.fails("value twice", Due.STATE, () -> bus.value(0, 0));
        Due.fails("ended after value", Due.STATE, () -> bus.ended(0, 0));
        Due.is("the label can be used again", bus.ask(0, 2, Stories.READ, 0, 0, 0), 0);
    }

    /** NODE 0's LABELS 0 .. 3 are DONE with the values 0 (WRITE), 100, -1 and 0. */
    private static SerialBus allDone() {
        SerialBus bus = Stories.three();
        bus.ask(0, 2, Stories.WRITE, 0, 0, 5);
        bus.ask(0, 2, Stories.READ, 6, 0, 0);
        bus.ask(0, 2, Stories.READ, 7, 0, 0);
        bus.ask(0, 2, Stories.SWAP, 1, 0, 9);
        bus.tick(12);
        return bus;
    }

    /** LABELS 0 .. 3, whichever is taken first. */
    private static void givesTheValueOfEveryLabel() {
        int[] due = {0, 100, -1, 0};
        for (int first = 0; first < 4; first++) {
            SerialBus bus = allDone();
            for (int i = 0; i < 4; i++) {
                int label = (first + i) % 4;
                Due.is("value at label " + label, bus.value(0, label), due[label]);
            }
            for (int label = 0; label < 4; label++) {
                int l = label;
                Due.fails("value again at label " + l, Due.STATE, () -> bus.value(0, l));
            }
        }
    }

    private static void givesAnyInt() {
        int[] anyInts = {Integer.MIN_VALUE, -2, 1, Integer.MAX_VALUE};
        for (int any : anyInts) {
            SerialBus bus = Stories.three();
            bus.ask(0, 2, Stories.WRITE, 3, 0, any);
            bus.ask(0, 2, Stories.READ, 3, 0, 0);
            bus.ask(0, 2, Stories.SWAP, 3, any, 0);
            bus.tick(10);
            Due.is("value of a write", bus.value(0, 0), 0);
            Due.is("value of a read", bus.value(0, 1), any);
            Due.is("value of a swap", bus.value(0, 2), any);
        }
    }

    private static void theValueIsThatOfTheTimeOfTheWork() {
        SerialBus bus = Stories.three();
        bus.ask(1, 0, Stories.WRITE, 3, 0, 31);
        bus.ask(2, 0, Stories.SWAP, 3, 31, 32);
        bus.ask(2, 0, Stories.SWAP, 3, 31, 33);
        bus.tick(12);
        Due.is("write", bus.value(1, 0), 0);
        Due.is("swap", bus.value(2, 0), 31);
        Due.is("swap too late", bus.value(2, 1), 32);
        Due.is("the word", bus.word(0, 3), 32);
    }

    private static void changesOnlyTheLabel() {
        freesOnly("done", ValueTest::allDone, 0, 1, Stories.DONE, "100");
    }

    /** "UnsupportedOperationException: it ended else (it is free then, too ..)": all four ways. */
    private static void anotherEndThrowsAndFreesTheLabel() {
        String thrown = "UnsupportedOperationException";
        freesOnly("reset", ValueTest::afterReset, 1, 0, Stories.RESET, thrown);
        freesOnly("busy", Stories::busy, 1, 1, Stories.BUSY, thrown);
        freesOnly("nobody", Stories::fourEnds, 0, 1, Stories.NOBODY, thrown);
        freesOnly("late", Stories::fourEnds, 0, 2, Stories.LATE, thrown);
    }

    private static SerialBus afterReset() {
        SerialBus bus = Stories.three();
        bus.ask(0, 2, Stories.READ, 0, 0, 0);
        bus.ask(1, 2, Stories.READ, 0, 0, 0);
        bus.tick(1);
        bus.reset(2, 0, false, false);
        bus.tick(1);
        return bus;
    }

    /** That LABEL is free then, and nothing else is told otherwise. */
    private static void freesOnly(
            String what, Supplier<SerialBus> story, int node, int label, int end, String answer) {
        SerialBus bus = story.get();
        Due.is(what + ", before", story.get().ended(node, label), end);
        Due.is("value of " + what, Due.answer(() -> bus.value(node, label)), answer);
        String free = "ended(" + node + ", " + label + ")=IllegalStateException";
        Due.is(what + ": all that changes", Due.changes(story.get(), bus), List.of(free));
        Due.fails(what + ", free for value", Due.STATE, () -> bus.value(node, label));
    }

    /** "IllegalArgumentException as above": l is not 0 .. 3. */
    private static void refusesLabels() {
        for (int no : Due.outside(0, 3)) {
            nothing("value at label " + no, Due.ARGUMENT, 1, no);
            nothing("value at label " + no + " of a node that never asked", Due.ARGUMENT, 10, no);
            nothing("value at label " + no + " of the first node", Due.ARGUMENT, 0, no);
            nothing("value at label " + no + " of the last node", Due.ARGUMENT, 11, no);
        }
    }

    /** "IllegalStateException: it is free". */
    private static void refusesFreeLabels() {
        nothing("value of a free label", Due.STATE, 1, 3);
        nothing("value of a node that never asked", Due.STATE, 10, 0);
        Due.failsAndChangesNothing("value after value", Due.STATE, ValueTest::taken, bus -> bus.value(0, 0));
        Due.failsAndChangesNothing("value after late", Due.STATE, ValueTest::taken, bus -> bus.value(5, 0));
    }

    private static void taken(SerialBus bus) {
        Stories.mixed(bus);
        bus.value(0, 0);
        bus.tick(9);
        Due.answer(() -> bus.value(5, 0));
    }

    /** "IllegalStateException: .. or waits", in the QUEUE or sent. */
    private static void refusesWaitingOnes() {
        nothing("value of a waiting one", Due.STATE, 2, 1);
        for (int label = 0; label < 4; label++) {
            int l = label;
            Due.failsAndChangesNothing(
                    "value of label " + l, Due.STATE, Stories::allWait, bus -> bus.value(7, l));
        }
        Due.failsAndChangesNothing(
                "value of one that is sent", Due.STATE, ValueTest::sent, bus -> bus.value(1, 0));
    }

    private static void sent(SerialBus bus) {
        bus.plug(0, 1, 1, 0);
        bus.plug(1, 1, 2, 0);
        bus.tick(1);
        bus.ask(1, 2, Stories.READ, 6, 0, 0);
        bus.tick(1);
    }

    private static void nothing(String what, Class<? extends RuntimeException> due, int a, int l) {
        Due.failsAndChangesNothing(what, due, Stories::mixed, bus -> bus.value(a, l));
    }
}
