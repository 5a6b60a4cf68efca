/** The terms DIRTY and RESET. */
public final class DirtyTest {
    public static void main(String[] args) {
        isResetOnceForEachChange();
        isResetOnceForManyChanges();
        isDirtyThoughTheChangeIsUndone();
        otherCallsDoNotMakeItDirty();
        resetOfABus();
        emptiesWhatIsFull();
        endsAllThatWait();
        keepsWhatHasEnded();
        keepsTheRest();
        resetsOnlyItsOwnBus();
        resetsBothParts();
        resetsALoopedBusToo();
        Due.finish();
    }

    private static void told(SerialBus bus, int what, int... due) {
        for (int node = 0; node < due.length; node++) {
            Due.is("about(" + node + ", " + what + ")", bus.about(node, what), due[node]);
        }
    }

    /** How many RESETS the next TICK has, and that the one after it has none. */
    private static void resets(String what, SerialBus bus, int due) {
        int before = bus.count(3);
        bus.tick(1);
        Due.is(what + ": resets", bus.count(3) - before, due);
        bus.tick(1);
        Due.is(what + ": no more", bus.count(3) - before, due);
    }

    /** "a NODE of it had a PORT plugged or unplugged, or was reset, since the last RESET". */
    private static void isResetOnceForEachChange() {
        SerialBus bus = Stories.three();
        resets("nothing", bus, 0);
        bus.plug(2, 2, 11, 2);
        resets("plug", bus, 1);
        bus.unplug(11, 2);
        resets("unplug", bus, 2);
        bus.reset(0, 0, false, false);
        resets("reset", bus, 1);
        bus.plug(1, 2, 2, 1);
        resets("plug inside", bus, 1);
        bus.unplug(2, 1);
        resets("unplug inside", bus, 1);
    }

    private static void isResetOnceForManyChanges() {
        SerialBus bus = Stories.three();
        bus.reset(0, 1, false, false);
        bus.reset(1, 1, false, false);
        bus.plug(2, 2, 11, 2);
        bus.plug(11, 1, 10, 1);
        resets("many", bus, 1);
    }

    private static void isDirtyThoughTheChangeIsUndone() {
        SerialBus bus = Stories.three();
        bus.plug(2, 2, 11, 2);
        bus.unplug(2, 2);
        Due.is("number of 0", bus.about(0, Stories.NUMBER), -1);
        Due.is("number of 11", bus.about(11, Stories.NUMBER), -1);
        resets("plugged and unplugged", bus, 2);
        bus.unplug(0, 1);
        bus.plug(0, 1, 1, 0);
        resets("unplugged and plugged", bus, 1);
    }

    private static void otherCallsDoNotMakeItDirty() {
        SerialBus bus = Stories.three();
        bus.ask(0, 2, Stories.READ, 0, 0, 0);
        bus.talk(0, 0, 1);
        bus.time(2);
        resets("ask, talk and time", bus, 0);
        bus.value(0, 0);
        bus.about(0, Stories.NUMBER);
        bus.word(0, 0);
        bus.count(3);
        resets("value, about, word and count", bus, 0);
    }

    private static void resetOfABus() {
        SerialBus bus = Stories.threeManaged(40, 0);
        bus.talk(1, 2, 10);
        bus.tick(1);
        bus.ask(0, 2, Stories.WRITE, 3, 0, 33);
        bus.ask(1, 2, Stories.WRITE, 4, 0, 44);
        bus.ask(2, 2, Stories.READ, 0, 0, 0);
        bus.ask(2, 1, Stories.READ, 0, 0, 0);
        bus.tick(2);
        Due.is("2 is used", bus.about(2, Stories.USED), 1);
        Due.is("2 has packets", bus.about(2, Stories.PACKETS) > 0, true);
        bus.reset(1, 0, false, false);
        bus.tick(1);
        told(bus, Stories.PACKETS, 0, 0, 0);
        told(bus, Stories.WAITING, 0, 0, 0);
        told(bus, Stories.USED, 0, 0, 0);
        told(bus, Stories.HEARD, 1, 0, 1);
        Due.is("word 6", bus.word(0, 6), 100);
        Due.is("word 7", bus.word(0, 7), -1);
        Due.is("other words stay", bus.word(2, 4), 44);
        Due.is("end of what was sent", bus.ended(2, 0), Stories.RESET);
        Due.is("end of what was not sent", bus.ended(2, 1), Stories.RESET);
        bus.ask(0, 0, Stories.WRITE, 6, 0, 0);
        bus.ask(0, 0, Stories.WRITE, 7, 0, 0);
        bus.tick(10);
        Due.is("the talk stays", bus.about(0, Stories.HEARD), 2);
    }

    /** "their QUEUES are empty", that of 0 having been full; and all can be asked anew. */
    private static void emptiesWhatIsFull() {
        SerialBus bus = new SerialBus();
        Stories.fullOfFour(bus);
        Due.is("full", bus.about(0, Stories.PACKETS), 6);
        bus.reset(2, 0, false, false);
        bus.tick(1);
        told(bus, Stories.PACKETS, 0, 0, 0, 0, 0);
        told(bus, Stories.WAITING, 0, 0, 0, 0, 0);
        told(bus, Stories.USED, 0, 0, 0, 0, 0);
        for (int label = 0; label < 4; label++) {
            Due.is("a new request", bus.ask(0, 0, Stories.READ, 0, 0, 0), label);
        }
        int sent = bus.count(4);
        bus.tick(1);
        Due.is("it is sent", bus.count(4), sent + 1);
        Due.is("its answer comes behind", bus.about(0, Stories.PACKETS), 4);
    }

    /** "all REQUESTS of its NODES end with RESET": in the QUEUE, sent, and of all LABELS. */
    private static void endsAllThatWait() {
        SerialBus bus = new SerialBus();
        Stories.fullOfFour(bus);
        bus.unplug(3, 1);
        bus.tick(1);
        for (int label = 0; label < 4; label++) {
            Due.is("label " + label + " of 0", bus.ended(0, label), Stories.RESET);
        }
        Due.is("sent by 1", bus.ended(1, 0), Stories.RESET);
        Due.is("sent by 2", bus.ended(2, 0), Stories.RESET);
        bus.tick(50);
        Due.is("it is not late then", bus.ended(0, 3), Stories.RESET);
    }

    /** What has ended before keeps its end and its value. */
    private static void keepsWhatHasEnded() {
        SerialBus bus = Stories.fourEnds();
        bus.reset(2, 0, false, false);
        bus.tick(1);
        Due.is("done", bus.ended(0, 0), Stories.DONE);
        Due.is("nobody", bus.ended(0, 1), Stories.NOBODY);
        Due.is("late", bus.ended(0, 2), Stories.LATE);
        Due.is("what waited", bus.ended(0, 3), Stories.RESET);
        Due.is("the value", bus.value(0, 0), 100);
        Due.fails("no request", Due.STATE, () -> bus.ended(1, 0));
    }

    /** HOLD, CONTENDER, BITS and place, TIME, CLOCK and what was HEARD are no part of it. */
    private static void keepsTheRest() {
        SerialBus bus = Stories.chain(2);
        bus.reset(0, 0b1010, true, true);
        bus.reset(1, 0, true, false);
        bus.talk(0, 0, 1);
        bus.time(7);
        bus.tick(1);
        told(bus, Stories.PLACE, 2, 2);
        for (int word = 6; word < 8; word++) {
            bus.ask(0, 0, Stories.WRITE, word, 0, 0);
        }
        bus.tick(8);
        told(bus, Stories.HEARD, 0, 1);
        bus.plug(1, 1, 2, 0);
        bus.plug(1, 2, 3, 0);
        bus.tick(1);
        told(bus, Stories.HEARD, 0, 1, 0, 0);
        told(bus, Stories.PLACE, 4, 4, 0, 0);
        told(bus, Stories.ROOT, 0, 0, 0, 0);
        told(bus, Stories.MANAGER, 0, 0, 0, 0);
        Due.is("clock", bus.count(2), 10);
        bus.plug(2, 1, 3, 1);
        bus.tick(1);
        bus.ask(3, 3, Stories.READ, 0, 0, 0);
        bus.tick(6);
        Due.is("time, before", bus.ended(3, 0), Stories.WAITS);
        bus.tick(1);
        Due.is("time", bus.ended(3, 0), Stories.LATE);
    }

    private static void resetsOnlyItsOwnBus() {
        SerialBus bus = Stories.three();
        bus.ask(0, 0, Stories.WRITE, 6, 0, 7);
        bus.ask(0, 0, Stories.WRITE, 7, 0, 8);
        bus.tick(1);
        bus.plug(4, 0, 5, 0);
        bus.reset(7, 0, false, false);
        bus.tick(1);
        Due.is("used was taken by a slot", bus.count(6), 1);
        Due.is("its request waits", bus.ended(0, 0), Stories.WAITS);
        Due.is("its packets", bus.about(0, Stories.PACKETS), 2);
        Due.is("its word 6", bus.word(0, 6), 7);
        Due.is("its number", bus.about(1, Stories.NUMBER), 2);
    }

    /** A CABLE goes between the asker and the ANSWER: both parts are DIRTY, the REQUEST ends. */
    private static void resetsBothParts() {
        SerialBus bus = Stories.three();
        bus.ask(0, 2, Stories.READ, 0, 0, 0);
        bus.tick(1);
        Due.is("the answer is at 2", bus.about(2, Stories.PACKETS), 1);
        bus.unplug(1, 1);
        bus.tick(1);
        Due.is("the request of 0", bus.ended(0, 0), Stories.RESET);
        Due.is("the answer is gone", bus.about(2, Stories.PACKETS), 0);
        bus.tick(5);
        Due.is("nothing more is sent", bus.count(4), 1);
    }

    /** The RESET is the same if the BUS turns out to be LOOPED. */
    private static void resetsALoopedBusToo() {
        SerialBus bus = Stories.threeManaged(40, 0);
        bus.ask(0, 2, Stories.READ, 0, 0, 0);
        bus.ask(1, 2, Stories.READ, 0, 0, 0);
        bus.tick(2);
        bus.plug(0, 2, 2, 2);
        bus.tick(1);
        Due.is("looped", bus.count(7), 1);
        told(bus, Stories.PACKETS, 0, 0, 0);
        told(bus, Stories.WAITING, 0, 0, 0);
        told(bus, Stories.USED, 0, 0, 0);
        Due.is("end", bus.ended(0, 0), Stories.RESET);
        Due.is("word 6", bus.word(0, 6), 100);
        Due.is("word 7", bus.word(0, 7), -1);
        Due.is("it counts", bus.count(3), 11);
        resets("and it is not dirty any more", bus, 0);
    }
}
