/** Promise 10. */
public final class ValueTest {
    public static void main(String[] args) {
        givesTheValueOnce();
        theValueIsThatOfTheTimeOfTheWork();
        anotherEndThrowsAndFreesTheLabel();
        refuses();
        Due.finish();
    }

    private static void givesTheValueOnce() {
        SerialBus bus = Stories.three();
        bus.ask(0, 2, Stories.READ, 6, 0, 0);
        bus.tick(2);
        bus.ask(0, 2, Stories.READ, 7, 0, 0);
        Due.is("the first was not taken, so it is gone", bus.ended(0, 0), Stories.WAITS);
        bus.tick(3);
        Due.is("value", bus.value(0, 0), -1);
        Due.fails("value twice", Due.STATE, () -> bus.value(0, 0));
        Due.fails("ended after value", Due.STATE, () -> bus.ended(0, 0));
        Due.is("the label can be used again", bus.ask(0, 2, Stories.READ, 0, 0, 0), 0);
    }

    private static void theValueIsThatOfTheTimeOfTheWork() {
        SerialBus bus = Stories.three();
        bus.ask(1, 0, Stories.WRITE, 3, 0, 31);
        bus.ask(2, 0, Stories.SWAP, 3, 31, 32);
        bus.ask(2, 0, Stories.SWAP, 3, 31, 33);
        bus.tick(12);
        Due.is("write", bus.value(1, 0), 0);
        Due.is("swap", bus.value(2, 0), 31);
        Due.is("swap too late", bus.value(2, 1), 32);
        Due.is("the word", bus.word(0, 3), 32);
    }

    private static void anotherEndThrowsAndFreesTheLabel() {
        SerialBus bus = new SerialBus();
        bus.ask(0, 1, Stories.READ, 0, 0, 0);
        bus.tick(1);
        Due.fails("value of reset", Due.UNSUPPORTED, () -> bus.value(0, 0));
        Due.fails("it is free then", Due.STATE, () -> bus.value(0, 0));
        bus.ask(0, 1, Stories.READ, 0, 0, 0);
        bus.tick(1);
        Due.fails("value of nobody", Due.UNSUPPORTED, () -> bus.value(0, 0));
        Due.fails("free, too", Due.STATE, () -> bus.ended(0, 0));
        bus.time(2);
        bus.ask(0, 0, Stories.READ, 0, 0, 0);
        bus.ask(0, 0, Stories.READ, 0, 0, 0);
        bus.tick(2);
        Due.fails("value of late", Due.UNSUPPORTED, () -> bus.value(0, 0));
        Due.fails("free again", Due.STATE, () -> bus.ended(0, 0));
        Due.is("the other label is as it was", bus.ended(0, 1), Stories.LATE);
    }

    private static void refuses() {
        for (int no : Due.NO_NODES) {
            nothing("value of " + no, Due.NO_NODE, no, 0);
            nothing("value: no node before no label", Due.NO_NODE, no, -1);
        }
        int[] noLabels = {-1, 4, Integer.MIN_VALUE, Integer.MAX_VALUE};
        for (int no : noLabels) {
            nothing("value at label " + no, Due.ARGUMENT, 1, no);
        }
        nothing("value of a free label", Due.STATE, 1, 3);
        nothing("value of a waiting one", Due.STATE, 2, 1);
    }

    private static void nothing(String what, Class<? extends RuntimeException> due, int a, int l) {
        Due.failsAndChangesNothing(what, due, Stories::mixed, bus -> bus.value(a, l));
    }
}
