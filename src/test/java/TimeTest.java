/** Promise 7, and when a REQUEST is LATE. */
public final class TimeTest {
    private static final int[] NO_TIMES = Due.outside(2, 60);

    public static void main(String[] args) {
        isTwentyAtFirst();
        everyTimeFromTwoToSixty();
        countsFromTheTickOfTheAsk();
        holdsForRequestsFromNowOn();
        refuses();
        aRefusedTimeLeavesTheOldOne();
        Due.finish();
    }

    /** Two NODES with the same BITS: the BUS is LOOPED, so that every REQUEST waits. */
    private static SerialBus stuck() {
        SerialBus bus = Stories.chain(2);
        bus.tick(1);
        return bus;
    }

    private static void endsAfter(String what, SerialBus bus, int ticks) {
        int label = bus.ask(0, 1, Stories.READ, 0, 0, 0);
        for (int tick = 1; tick < ticks; tick++) {
            bus.tick(1);
        }
        Due.is(what + ": waits before", bus.ended(0, label), Stories.WAITS);
        Due.is(what + ": packet before", bus.about(0, Stories.PACKETS), 1);
        bus.tick(1);
        Due.is(what + ": late", bus.ended(0, label), Stories.LATE);
        Due.is(what + ": no packet", bus.about(0, Stories.PACKETS), 0);
        Due.is(what + ": none waits", bus.about(0, Stories.WAITING), 0);
    }

    /** "TIME is 20 at first." */
    private static void isTwentyAtFirst() {
        endsAfter("at first", stuck(), 20);
    }

    /** "TIME becomes that, 2 .. 60". */
    private static void everyTimeFromTwoToSixty() {
        for (int ticks = 2; ticks <= 60; ticks++) {
            SerialBus bus = stuck();
            bus.time(ticks);
            endsAfter("time " + ticks, bus, ticks);
        }
    }

    /** "begun in TICK t: when the CLOCK comes to show t + TIME", whatever t and when time came. */
    private static void countsFromTheTickOfTheAsk() {
        SerialBus bus = stuck();
        bus.time(3);
        for (int t = 1; t <= 40; t += 3) {
            endsAfter("begun in tick " + t, bus, 3);
        }
        SerialBus early = Stories.chain(2);
        early.ask(0, 1, Stories.READ, 0, 0, 0);
        early.tick(50);
        Due.is("begun in tick 0, that of the reset", early.ended(0, 0), Stories.RESET);
    }

    /** "for REQUESTS begun from now on". */
    private static void holdsForRequestsFromNowOn() {
        SerialBus bus = stuck();
        bus.time(10);
        bus.ask(0, 1, Stories.READ, 0, 0, 0);
        bus.time(3);
        bus.ask(0, 1, Stories.READ, 0, 0, 0);
        bus.time(40);
        bus.tick(2);
        Due.is("begun at 3, before", bus.ended(0, 1), Stories.WAITS);
        bus.tick(1);
        Due.is("begun at 3", bus.ended(0, 1), Stories.LATE);
        bus.tick(6);
        Due.is("begun at 10, before", bus.ended(0, 0), Stories.WAITS);
        bus.tick(1);
        Due.is("begun at 10", bus.ended(0, 0), Stories.LATE);
    }

    private static void refuses() {
        for (int no : NO_TIMES) {
            nothing(no);
        }
        nothing(0);
        nothing(-20);
    }

    private static void nothing(int no) {
        Due.failsAndChangesNothing("time " + no, Due.ARGUMENT, Stories::mixed, bus -> bus.time(no));
    }

    private static void aRefusedTimeLeavesTheOldOne() {
        for (int no : NO_TIMES) {
            SerialBus fresh = stuck();
            Due.fails("time " + no, Due.ARGUMENT, () -> fresh.time(no));
            endsAfter("after time " + no + " at first", fresh, 20);
            SerialBus changed = stuck();
            changed.time(7);
            Due.fails("time " + no, Due.ARGUMENT, () -> changed.time(no));
            endsAfter("after time " + no + " at seven", changed, 7);
        }
    }
}
