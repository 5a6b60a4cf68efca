/** Promise 6. */
public final class TalkTest {
    private static final int[] NO_CHANNELS = Due.outside(0, 31);
    private static final int[] NO_BANDWIDTHS = Due.outside(0, 100);

    public static void main(String[] args) {
        talksInEveryCycle();
        aNewTalkTakesTheOldOnesPlace();
        bandwidthZeroIsNone();
        channelsFromZeroToThirtyOne();
        bandwidthsFromOneToHundred();
        refusesChannels();
        refusesBandwidths();
        aRefusedTalkLeavesTheOldOne();
        Due.finish();
    }

    private static void talksInEveryCycle() {
        SerialBus bus = Stories.threeManaged(0, 0);
        bus.talk(1, 5, 10);
        bus.tick(1);
        Due.is("in the cycle of clock 8", bus.count(5), 1);
        bus.tick(7);
        Due.is("not between", bus.count(5), 1);
        bus.tick(1);
        Due.is("in the cycle of clock 16", bus.count(5), 2);
        bus.tick(48);
        Due.is("and on", bus.count(5), 8);
        Due.is("0 heard", bus.about(0, Stories.HEARD), 8);
        Due.is("2 heard", bus.about(2, Stories.HEARD), 8);
        Due.is("1 did not hear itself", bus.about(1, Stories.HEARD), 0);
    }

    private static void aNewTalkTakesTheOldOnesPlace() {
        SerialBus bus = Stories.threeManaged(0, ~(1 << 4));
        bus.talk(1, 4, 10);
        bus.talk(1, 5, 10);
        bus.tick(1);
        Due.is("channel 5 is not taken", bus.count(5), 0);
        bus.talk(1, 4, 10);
        bus.tick(8);
        Due.is("channel 4 is taken", bus.count(5), 1);
    }

    /** "bandwidth 0: none", whatever the channel; for a NODE that has none, too. */
    private static void bandwidthZeroIsNone() {
        for (int channel = 0; channel < 32; channel += 31) {
            SerialBus bus = Stories.threeManaged(0, 0);
            bus.talk(1, 4, 10);
            bus.talk(1, channel, 0);
            bus.talk(2, channel, 0);
            bus.tick(1);
            Due.is("no talk", bus.count(5), 0);
            bus.talk(1, channel, 1);
            bus.tick(8);
            Due.is("one again", bus.count(5), 1);
        }
    }

    /** "channel not 0 .. 31" is refused, these are not: each is the one that is taken. */
    private static void channelsFromZeroToThirtyOne() {
        for (int channel = 0; channel < 32; channel++) {
            SerialBus bus = Stories.threeManaged(0, ~(1 << channel));
            bus.talk(2, channel, 1);
            bus.tick(1);
            Due.is("channel " + channel, bus.count(5), 1);
        }
    }

    /** "bandwidth not 0 .. 100" is refused, these are not: each just fits. */
    private static void bandwidthsFromOneToHundred() {
        for (int bandwidth = 1; bandwidth <= 100; bandwidth++) {
            SerialBus bus = Stories.threeManaged(100 - bandwidth, 0);
            bus.talk(2, 0, bandwidth);
            bus.tick(1);
            Due.is("bandwidth " + bandwidth, bus.count(5), 1);
            SerialBus narrow = Stories.threeManaged(101 - bandwidth, 0);
            narrow.talk(2, 0, bandwidth);
            narrow.tick(1);
            Due.is("bandwidth " + bandwidth + " in one less", narrow.count(5), 0);
        }
    }

    private static void refusesChannels() {
        for (int no : NO_CHANNELS) {
            nothing("talk on channel " + no, 2, no, 10);
            nothing("no talk on channel " + no, 2, no, 0);
            nothing("talk of a new talker on channel " + no, 1, no, 10);
        }
    }

    private static void refusesBandwidths() {
        for (int no : NO_BANDWIDTHS) {
            nothing("talk of bandwidth " + no, 2, 7, no);
            nothing("talk on channel 0 of bandwidth " + no, 2, 0, no);
            nothing("talk on channel 31 of bandwidth " + no, 2, 31, no);
            nothing("talk on no channel of bandwidth " + no, 2, 32, no);
        }
    }

    private static void nothing(String what, int a, int channel, int bandwidth) {
        Due.failsAndChangesNothing(
                what, Due.ARGUMENT, Stories::mixed, bus -> bus.talk(a, channel, bandwidth));
    }

    private static void aRefusedTalkLeavesTheOldOne() {
        SerialBus bus = Stories.threeManaged(50, ~(1 << 31));
        bus.talk(2, 31, 50);
        for (int no : NO_CHANNELS) {
            Due.fails("talk on channel " + no, Due.ARGUMENT, () -> bus.talk(2, no, 1));
        }
        for (int no : NO_BANDWIDTHS) {
            Due.fails("talk of bandwidth " + no, Due.ARGUMENT, () -> bus.talk(2, 0, no));
        }
        bus.tick(1);
        Due.is("it talks as before", bus.count(5), 1);
    }
}
