/** Promise 9. */
public final class EndedTest {
    public static void main(String[] args) {
        tellsTheEnds();
        tellsOfEveryLabel();
        tellsAgainAndAgain();
        isKeptUntilANewOneComes();
        changesNothing();
        refusesLabels();
        refusesFreeLabels();
        Due.finish();
    }

    private static void tellsTheEnds() {
        SerialBus bus = Stories.three();
        bus.time(4);
        bus.ask(0, 2, Stories.READ, 0, 0, 0);
        Due.is("it waits", bus.ended(0, 0), -1);
        bus.tick(1);
        Due.is("it waits for the answer", bus.ended(0, 0), -1);
        bus.tick(1);
        Due.is("done", bus.ended(0, 0), 0);
        bus.ask(2, 2, Stories.READ, 0, 0, 0);
        bus.reset(1, 0, false, false);
        bus.tick(1);
        Due.is("reset", bus.ended(2, 0), 1);
        Due.is("done stays", bus.ended(0, 0), 0);
        bus.ask(1, 3, Stories.READ, 0, 0, 0);
        bus.tick(1);
        Due.is("nobody", bus.ended(1, 0), 3);
        for (int label = 0; label < 4; label++) {
            bus.ask(2, 2, Stories.READ, 0, 0, 0);
        }
        bus.tick(4);
        Due.is("late", bus.ended(2, 3), 4);
        Due.is("busy", Stories.busy().ended(1, 1), 2);
    }

    /** "l is not 0 .. 3" is refused, these are not: each tells of its own REQUEST. */
    private static void tellsOfEveryLabel() {
        SerialBus bus = Stories.fourEnds();
        int[] due = {Stories.DONE, Stories.NOBODY, Stories.LATE, Stories.WAITS};
        for (int label = 0; label < 4; label++) {
            Due.is("label " + label, bus.ended(0, label), due[label]);
        }
    }

    private static void tellsAgainAndAgain() {
        SerialBus bus = new SerialBus();
        bus.ask(3, 3, Stories.READ, 0, 0, 0);
        bus.tick(1);
        Due.is("once", bus.ended(3, 0), 1);
        bus.tick(50);
        Due.is("twice", bus.ended(3, 0), 1);
        bus.reset(3, 0, false, false);
        bus.tick(1);
        Due.is("and after a reset", bus.ended(3, 0), 1);
    }

    /** "An ended REQUEST is kept at its LABEL until value takes it or a new one comes there". */
    private static void isKeptUntilANewOneComes() {
        SerialBus bus = Stories.fourEnds();
        bus.ask(0, 1, Stories.READ, 0, 0, 0);
        Due.is("a new one at label 0", bus.ended(0, 0), Stories.WAITS);
        Due.is("label 1 is kept", bus.ended(0, 1), Stories.NOBODY);
        Due.is("label 2 is kept", bus.ended(0, 2), Stories.LATE);
        bus.ask(0, 1, Stories.READ, 0, 0, 0);
        Due.is("a new one at label 1", bus.ended(0, 1), Stories.WAITS);
        Due.is("label 2 is kept still", bus.ended(0, 2), Stories.LATE);
    }

    private static void changesNothing() {
        Due.tellsAndChangesNothing("ended", Stories::mixed, bus -> {
            bus.ended(1, 0);
            bus.ended(2, 0);
            bus.ended(4, 1);
            bus.ended(5, 0);
        });
    }

    /** "IllegalArgumentException: l is not 0 .. 3." */
    private static void refusesLabels() {
        for (int no : Due.outside(0, 3)) {
            nothing("ended at label " + no, Due.ARGUMENT, 1, no);
            nothing("ended at label " + no + " of a node that never asked", Due.ARGUMENT, 10, no);
            nothing("ended at label " + no + " of the first node", Due.ARGUMENT, 0, no);
            nothing("ended at label " + no + " of the last node", Due.ARGUMENT, 11, no);
        }
    }

    /** "IllegalStateException: the LABEL is free." */
    private static void refusesFreeLabels() {
        nothing("ended of a free label", Due.STATE, 1, 3);
        nothing("ended of a node that never asked", Due.STATE, 10, 0);
        Due.failsAndChangesNothing("ended after value", Due.STATE, EndedTest::taken, bus -> bus.ended(0, 0));
    }

    private static void taken(SerialBus bus) {
        Stories.mixed(bus);
        bus.value(0, 0);
    }

    private static void nothing(String what, Class<? extends RuntimeException> due, int a, int l) {
        Due.failsAndChangesNothing(what, due, Stories::mixed, bus -> bus.ended(a, l));
    }
}
