/** "A REQUEST that has waited for TIME TICKS .. ends with LATE"; TimeTest has the bounds of TIME. */
public final class LateTest {
    public static void main(String[] args) {
        notOneTickBefore();
        doneInTheVeryTick();
        otherEndsInTheVeryTick();
        itsPacketGoesWhereverItStands();
        allFourAtOnce();
        ofEveryNode();
        aBusyPacketGoes();
        theAnswerStays();
        theAnswerInItsOwnQueueStays();
        theAnswerFindsTheLabelFree();
        theAnswerFindsANewRequest();
        itsLabelIsGivenAgain();
        Due.finish();
    }

    /** NODE 0 asks 2 while NODE 1 sends first: sent in the second TICK, answered in the third. */
    private static SerialBus answeredInTheThirdTick(int time) {
        SerialBus bus = Stories.three();
        bus.ask(1, 9, Stories.READ, 0, 0, 0);
        bus.time(time);
        bus.ask(0, 2, Stories.READ, 6, 0, 0);
        return bus;
    }

    private static void notOneTickBefore() {
        SerialBus bus = answeredInTheThirdTick(2);
        bus.tick(1);
        Due.is("after one tick", bus.ended(0, 0), Stories.WAITS);
        bus.tick(1);
        Due.is("after two", bus.ended(0, 0), Stories.LATE);
    }

    /** "REQUESTS come to their time" last in a TICK, so it may be DONE in it. */
    private static void doneInTheVeryTick() {
        SerialBus bus = answeredInTheThirdTick(3);
        bus.tick(2);
        Due.is("after two ticks", bus.ended(0, 0), Stories.WAITS);
        bus.tick(1);
        Due.is("after three", bus.ended(0, 0), Stories.DONE);
        bus.tick(1);
        Due.is("and then", bus.ended(0, 0), Stories.DONE);
    }

    private static void otherEndsInTheVeryTick() {
        SerialBus reset = answeredInTheThirdTick(2);
        reset.tick(1);
        reset.reset(1, 0, false, false);
        reset.tick(1);
        Due.is("reset", reset.ended(0, 0), Stories.RESET);
        SerialBus nobody = Stories.three();
        nobody.ask(1, 9, Stories.READ, 0, 0, 0);
        nobody.time(2);
        nobody.ask(0, 9, Stories.READ, 0, 0, 0);
        nobody.tick(2);
        Due.is("nobody", nobody.ended(0, 0), Stories.NOBODY);
    }

    /** "its PACKET, if it is still in the QUEUE, goes": the others are sent in their order. */
    private static void itsPacketGoesWhereverItStands() {
        for (int late = 0; late < 4; late++) {
            SerialBus bus = Stories.three();
            bus.ask(1, 9, Stories.READ, 0, 0, 0);
            bus.ask(2, 9, Stories.READ, 0, 0, 0);
            for (int label = 0; label < 4; label++) {
                bus.time(label == late ? 2 : 60);
                bus.ask(0, 1, Stories.WRITE, 0, 0, 1 + label);
            }
            bus.tick(2);
            Due.is("late", bus.ended(0, late), Stories.LATE);
            Due.is("packets", bus.about(0, Stories.PACKETS), 3);
            Due.is("waiting", bus.about(0, Stories.WAITING), 3);
            Due.is("works without " + late, works(bus), "01234".replace("" + (1 + late), ""));
            Due.is("late still", bus.ended(0, late), Stories.LATE);
        }
    }

    /** The values that WORD 0 of NODE 1 has one after the other. */
    private static String works(SerialBus bus) {
        StringBuilder text = new StringBuilder().append(bus.word(1, 0));
        for (int tick = 0; tick < 20; tick++) {
            bus.tick(1);
            String now = String.valueOf(bus.word(1, 0));
            if (!text.toString().endsWith(now)) {
                text.append(now);
            }
        }
        return text.toString();
    }

    private static void allFourAtOnce() {
        SerialBus bus = Stories.pair(0, 0);
        bus.time(2);
        for (int label = 0; label < 4; label++) {
            bus.ask(0, 1, Stories.READ, 0, 0, 0);
        }
        bus.ask(1, 0, Stories.READ, 0, 0, 0);
        bus.tick(2);
        for (int label = 0; label < 4; label++) {
            Due.is("label " + label, bus.ended(0, label), Stories.LATE);
        }
        Due.is("another node", bus.ended(1, 0), Stories.LATE);
        Due.is("packets of 0", bus.about(0, Stories.PACKETS), 0);
        Due.is("packets of 1", bus.about(1, Stories.PACKETS), 0);
        Due.is("nothing was sent", bus.count(4), 0);
    }

    private static void ofEveryNode() {
        SerialBus bus = new SerialBus();
        for (int node = 0; node < 12; node += 2) {
            bus.plug(node, 0, node + 1, 0);
        }
        bus.tick(1);
        bus.time(3);
        for (int node = 0; node < 12; node++) {
            bus.ask(node, node, Stories.READ, 0, 0, 0);
        }
        bus.tick(2);
        for (int node = 0; node < 12; node++) {
            Due.is("before, node " + node, bus.ended(node, 0), Stories.WAITS);
        }
        bus.tick(1);
        for (int node = 0; node < 12; node++) {
            Due.is("late, node " + node, bus.ended(node, 0), Stories.LATE);
        }
    }

    /** NODE 3 is BUSY once; its PACKET, back in the QUEUE, goes before it is sent again. */
    private static void aBusyPacketGoes() {
        SerialBus bus = new SerialBus();
        Stories.fullOfFour(bus);
        bus.time(2);
        bus.ask(3, 0, Stories.WRITE, 4, 0, 33);
        bus.tick(1);
        Due.is("busy, so it is back", bus.about(3, Stories.PACKETS), 1);
        bus.tick(1);
        Due.is("late", bus.ended(3, 0), Stories.LATE);
        Due.is("it is gone", bus.about(3, Stories.PACKETS), 0);
        bus.tick(40);
        Due.is("it was not sent again", bus.word(0, 4), 0);
        Due.is("late still", bus.ended(3, 0), Stories.LATE);
    }

    /** An ANSWER is a PACKET of its own: "if that LABEL still waits for it" is asked when it is sent. */
    private static void theAnswerStays() {
        SerialBus bus = answeredInTheThirdTick(2);
        bus.tick(2);
        Due.is("late", bus.ended(0, 0), Stories.LATE);
        Due.is("the answer stays", bus.about(2, Stories.PACKETS), 1);
        bus.tick(1);
        Due.is("it is sent", bus.count(4), 3);
        Due.is("2 has none now", bus.about(2, Stories.PACKETS), 0);
        Due.is("late is late", bus.ended(0, 0), Stories.LATE);
    }

    /** NODE 0, alone, asks itself; the ANSWER could be sent in the third TICK. */
    private static SerialBus lateAlone() {
        SerialBus bus = new SerialBus();
        bus.tick(1);
        bus.time(2);
        bus.ask(0, 0, Stories.WRITE, 0, 0, 1);
        bus.tick(2);
        return bus;
    }

    private static void theAnswerInItsOwnQueueStays() {
        SerialBus bus = lateAlone();
        Due.is("late", bus.ended(0, 0), Stories.LATE);
        Due.is("the answer stays", bus.about(0, Stories.PACKETS), 1);
        bus.tick(1);
        Due.is("it is sent", bus.count(4), 2);
        Due.is("late is late", bus.ended(0, 0), Stories.LATE);
    }

    private static void theAnswerFindsTheLabelFree() {
        SerialBus bus = lateAlone();
        Due.fails("value", Due.UNSUPPORTED, () -> bus.value(0, 0));
        bus.tick(1);
        Due.is("the answer is sent", bus.count(4), 2);
        Due.fails("the label is free still", Due.STATE, () -> bus.ended(0, 0));
    }

    private static void theAnswerFindsANewRequest() {
        SerialBus bus = lateAlone();
        bus.time(20);
        Due.is("the same label", bus.ask(0, 0, Stories.READ, 0, 0, 0), 0);
        bus.tick(1);
        Due.is("the old answer was sent", bus.count(4), 2);
        Due.is("it does not end the new one", bus.ended(0, 0), Stories.WAITS);
        bus.tick(4);
        Due.is("the new one's value", bus.value(0, 0), 1);
    }

    /** A LATE REQUEST does not wait, so its LABEL may be the least for the next. */
    private static void itsLabelIsGivenAgain() {
        SerialBus bus = Stories.pair(0, 0);
        bus.time(60);
        bus.ask(0, 1, Stories.READ, 0, 0, 0);
        bus.time(2);
        bus.ask(0, 1, Stories.READ, 0, 0, 0);
        bus.tick(2);
        Due.is("label 1", bus.ask(0, 1, Stories.READ, 0, 0, 0), 1);
        Due.is("it waits", bus.ended(0, 1), Stories.WAITS);
        bus.tick(1);
        Due.is("not yet", bus.ended(0, 1), Stories.WAITS);
        bus.tick(1);
        Due.is("its own time", bus.ended(0, 1), Stories.LATE);
    }
}
