/** Promise 8, and the order in which a TICK does things. */
public final class TickTest {
    public static void main(String[] args) {
        answersTheClock();
        everyNumberFromOneToFifty();
        manyTicksAreAsMany();
        aDirtyBusIsResetFirst();
        aLoopedBusDoesNothing();
        cyclesAndSlots();
        everyEighthTickIsACycle();
        busesAreApart();
        requestsComeToTheirTimeLast();
        refuses();
        Due.finish();
    }

    private static void answersTheClock() {
        SerialBus bus = new SerialBus();
        Due.is("tick(1)", bus.tick(1), 1);
        Due.is("tick(50)", bus.tick(50), 51);
        Due.is("tick(7)", bus.tick(7), 58);
        Due.is("the clock", bus.count(2), 58);
        Due.is("every node alone is reset once", bus.count(3), 12);
    }

    /** "n TICKS, 1 .. 50". */
    private static void everyNumberFromOneToFifty() {
        SerialBus bus = new SerialBus();
        int clock = 0;
        for (int n = 1; n <= 50; n++) {
            clock += n;
            Due.is("tick(" + n + ")", bus.tick(n), clock);
            Due.is("the clock", bus.count(2), clock);
        }
    }

    private static void manyTicksAreAsMany() {
        for (int n = 1; n <= 50; n++) {
            SerialBus once = new SerialBus();
            SerialBus oneByOne = new SerialBus();
            Stories.allWait(once);
            Stories.allWait(oneByOne);
            once.tick(n);
            for (int tick = 0; tick < n; tick++) {
                oneByOne.tick(1);
            }
            Due.is("tick(" + n + ")", Due.picture(once), Due.picture(oneByOne));
        }
    }

    /** "1 The BUS is DIRTY", though it is the time of a CYCLE. */
    private static void aDirtyBusIsResetFirst() {
        SerialBus bus = Stories.threeManaged(0, 0);
        bus.talk(1, 3, 10);
        bus.ask(0, 1, Stories.READ, 0, 0, 0);
        int sent = bus.count(4);
        bus.reset(2, 0, false, false);
        bus.tick(1);
        Due.is("no cycle at clock 8", bus.count(5), 0);
        Due.is("no slot", bus.count(4), sent);
        Due.is("a reset", bus.ended(0, 0), Stories.RESET);
        Due.is("resets", bus.count(3), 11);
    }

    /** "2 It is LOOPED: nothing", at the time of a CYCLE, too. */
    private static void aLoopedBusDoesNothing() {
        SerialBus bus = new SerialBus();
        bus.plug(0, 0, 1, 0);
        bus.plug(0, 1, 1, 1);
        bus.reset(0, 0, false, true);
        bus.talk(1, 0, 1);
        bus.tick(1);
        bus.ask(0, 0, Stories.WRITE, 7, 0, 0);
        bus.tick(18);
        Due.is("still in the queue", bus.about(0, Stories.PACKETS), 1);
        Due.is("nothing was sent", bus.count(4), 0);
        Due.is("no cycle", bus.count(5), 0);
        Due.is("one reset", bus.count(3), 11);
        Due.is("looped", bus.count(7), 1);
    }

    private static void cyclesAndSlots() {
        SerialBus managed = Stories.threeManaged();
        managed.tick(7);
        managed.ask(0, 1, Stories.READ, 0, 0, 0);
        managed.tick(1);
        Due.is("no slot in a cycle", managed.count(4), 0);
        managed.tick(1);
        Due.is("a slot after it", managed.count(4), 1);
        SerialBus unmanaged = Stories.three();
        unmanaged.tick(7);
        unmanaged.ask(0, 1, Stories.READ, 0, 0, 0);
        unmanaged.tick(1);
        Due.is("no manager: a slot instead", unmanaged.count(4), 1);
    }

    /** "3 The CLOCK is a multiple of 8: CYCLE. 4 else SLOT." */
    private static void everyEighthTickIsACycle() {
        SerialBus bus = Stories.threeManaged(0, 0);
        bus.talk(2, 0, 1);
        for (int clock = 8; clock <= 40; clock++) {
            if (bus.about(0, Stories.PACKETS) == 0) {
                bus.ask(0, 9, Stories.READ, 0, 0, 0);
            }
            int cycles = bus.count(5);
            int slots = bus.count(4) + bus.count(6);
            bus.tick(1);
            int cycle = clock % 8 == 0 ? 1 : 0;
            Due.is("cycle at " + clock, bus.count(5) - cycles, cycle);
            Due.is("slot at " + clock, bus.count(4) + bus.count(6) - slots, 1 - cycle);
        }
    }

    private static void busesAreApart() {
        SerialBus bus = Stories.chain(3);
        bus.plug(4, 0, 5, 0);
        bus.reset(5, 1, false, false);
        bus.tick(1);
        bus.ask(0, 1, Stories.WRITE, 0, 0, 8);
        bus.ask(4, 5, Stories.WRITE, 0, 0, 9);
        bus.ask(9, 9, Stories.WRITE, 0, 0, 7);
        bus.tick(1);
        Due.is("three slots at once", bus.count(4), 3);
        Due.is("word of 1", bus.word(1, 0), 8);
        Due.is("word of 5", bus.word(5, 0), 9);
        Due.is("word of 9", bus.word(9, 0), 7);
        bus.reset(9, 0, false, false);
        bus.tick(1);
        Due.is("9 is reset", bus.ended(9, 0), Stories.RESET);
        Due.is("0 is done", bus.ended(0, 0), Stories.DONE);
        Due.is("4 is done", bus.ended(4, 0), Stories.DONE);
    }

    private static void requestsComeToTheirTimeLast() {
        SerialBus bus = new SerialBus();
        bus.tick(1);
        bus.time(3);
        bus.ask(0, 0, Stories.READ, 6, 0, 0);
        bus.tick(3);
        Due.is("done in the last tick", bus.ended(0, 0), Stories.DONE);
        bus.time(2);
        bus.ask(1, 1, Stories.READ, 6, 0, 0);
        bus.tick(2);
        Due.is("not done in time", bus.ended(1, 0), Stories.LATE);
    }

    private static void refuses() {
        for (int no : Due.outside(1, 50)) {
            nothing(no);
        }
        nothing(-1);
    }

    private static void nothing(int no) {
        Due.failsAndChangesNothing(
                "tick(" + no + ")", Due.ARGUMENT, Stories::mixed, bus -> bus.tick(no));
    }
}
