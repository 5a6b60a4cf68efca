/** Promise 7. */
public final class TimeTest {
    public static void main(String[] args) {
        isTwentyAtFirst();
        for (int ticks = 2; ticks <= 60; ticks++) {
            endsAfter(ticks);
        }
        holdsForRequestsFromNowOn();
        refuses();
        Due.finish();
    }

    /** Two NODES with the same BITS: the BUS is LOOPED, so that every REQUEST waits. */
    private static SerialBus stuck() {
        SerialBus bus = Stories.chain(2);
        bus.tick(1);
        return bus;
    }

    private static void endsAfter(SerialBus bus, int ticks) {
        bus.ask(0, 1, Stories.READ, 0, 0, 0);
        for (int tick = 1; tick < ticks; tick++) {
            bus.tick(1);
        }
        Due.is("waits, time " + ticks, bus.ended(0, 0), Stories.WAITS);
        Due.is("packets, time " + ticks, bus.about(0, Stories.PACKETS), 1);
        bus.tick(1);
        Due.is("late, time " + ticks, bus.ended(0, 0), Stories.LATE);
        Due.is("no packets, time " + ticks, bus.about(0, Stories.PACKETS), 0);
        Due.is("none waits, time " + ticks, bus.about(0, Stories.WAITING), 0);
    }

    private static void isTwentyAtFirst() {
        endsAfter(stuck(), 20);
    }

    private static void endsAfter(int ticks) {
        SerialBus bus = stuck();
        bus.time(ticks);
        endsAfter(bus, ticks);
    }

    private static void holdsForRequestsFromNowOn() {
        SerialBus bus = stuck();
        bus.time(10);
        bus.ask(0, 1, Stories.READ, 0, 0, 0);
        bus.time(3);
        bus.ask(0, 1, Stories.READ, 0, 0, 0);
        bus.time(40);
        bus.tick(3);
        Due.is("begun at 10", bus.ended(0, 0), Stories.WAITS);
        Due.is("begun at 3", bus.ended(0, 1), Stories.LATE);
        bus.tick(7);
        Due.is("begun at 10, then", bus.ended(0, 0), Stories.LATE);
    }

    private static void refuses() {
        int[] noTimes = {-1, 0, 1, 61, Integer.MIN_VALUE, Integer.MAX_VALUE};
        for (int no : noTimes) {
            Due.failsAndChangesNothing(
                    "time " + no, Due.ARGUMENT, Stories::mixed, bus -> bus.time(no));
        }
    }
}
