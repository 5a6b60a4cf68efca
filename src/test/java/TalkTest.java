/** Promise 6. */
public final class TalkTest {
    public static void main(String[] args) {
        talksInEveryCycle();
        aNewTalkTakesTheOldOnesPlace();
        bandwidthZeroIsNone();
        theEdgesAreFine();
        refuses();
        Due.finish();
    }

    private static void talksInEveryCycle() {
        SerialBus bus = Stories.threeManaged(0, 0);
        bus.talk(1, 5, 10);
        bus.tick(1);
        Due.is("in the cycle of clock 8", bus.count(5), 1);
        bus.tick(7);
        Due.is("not between", bus.count(5), 1);
        bus.tick(1);
        Due.is("in the cycle of clock 16", bus.count(5), 2);
        bus.tick(48);
        Due.is("and on", bus.count(5), 8);
        Due.is("0 heard", bus.about(0, Stories.HEARD), 8);
        Due.is("2 heard", bus.about(2, Stories.HEARD), 8);
        Due.is("1 did not hear itself", bus.about(1, Stories.HEARD), 0);
    }

    private static void aNewTalkTakesTheOldOnesPlace() {
        SerialBus bus = Stories.threeManaged(0, ~(1 << 4));
        bus.talk(1, 4, 10);
        bus.talk(1, 5, 10);
        bus.tick(1);
        Due.is("channel 5 is not taken", bus.count(5), 0);
        bus.talk(1, 4, 10);
        bus.tick(8);
        Due.is("channel 4 is taken", bus.count(5), 1);
    }

    private static void bandwidthZeroIsNone() {
        SerialBus bus = Stories.threeManaged(0, 0);
        bus.talk(1, 4, 10);
        bus.talk(1, 4, 0);
        bus.tick(1);
        Due.is("no talk", bus.count(5), 0);
    }

    private static void theEdgesAreFine() {
        SerialBus bus = Stories.threeManaged(0, 0);
        bus.talk(2, 31, 100);
        bus.tick(1);
        Due.is("channel 31, bandwidth 100", bus.count(5), 1);
        bus.talk(2, 0, 1);
        bus.tick(8);
        Due.is("channel 0, bandwidth 1", bus.count(5), 2);
    }

    private static void refuses() {
        for (int no : Due.NO_NODES) {
            nothing("talk of " + no, Due.NO_NODE, no, 1, 1);
            nothing("talk: no node before no channel", Due.NO_NODE, no, 32, 101);
        }
        int[] noChannels = {-1, 32, Integer.MIN_VALUE, Integer.MAX_VALUE};
        for (int no : noChannels) {
            nothing("talk on channel " + no, Due.ARGUMENT, 2, no, 10);
            nothing("no talk on channel " + no, Due.ARGUMENT, 2, no, 0);
        }
        int[] noBandwidths = {-1, 101, Integer.MIN_VALUE, Integer.MAX_VALUE};
        for (int no : noBandwidths) {
            nothing("talk of bandwidth " + no, Due.ARGUMENT, 2, 7, no);
        }
    }

    private static void nothing(
            String what, Class<? extends RuntimeException> due, int a, int channel, int bandwidth) {
        Due.failsAndChangesNothing(what, due, Stories::mixed, bus -> bus.talk(a, channel, bandwidth));
    }
}
