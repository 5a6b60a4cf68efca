import java.util.function.Consumer;

/** Compares answers with those that are due; every test ends with finish(). */
final class Due {
    static final Class<? extends RuntimeException> NO_NODE = java.util.NoSuchElementException.class;
    static final Class<? extends RuntimeException> ARGUMENT = IllegalArgumentException.class;
    static final Class<? extends RuntimeException> STATE = IllegalStateException.class;
    static final Class<? extends RuntimeException> UNSUPPORTED = UnsupportedOperationException.class;

    static final int[] NO_NODES = {-1, 12, Integer.MIN_VALUE, Integer.MAX_VALUE};

    private static int compared = 0;
    private static int wrong = 0;

    private Due() {}

    static void is(String what, Object got, Object due) {
        compared++;
        if (!got.equals(due)) {
            wrong++;
            System.out.println(what + ": answered " + got + ", due is " + due);
        }
    }

    static void fails(String what, Class<? extends RuntimeException> due, Runnable call) {
        String thrown = "nothing";
        try {
            call.run();
        } catch (RuntimeException e) {
            thrown = e.getClass().getSimpleName();
        }
        is(what + " throws", thrown, due.getSimpleName());
    }

    /**
     * Two objects live through the same story, one of them also through the call that throws: no
     * later answer may tell them apart. Both pictures are taken of new objects, as one object is
     * used for 512 calls only.
     */
    static void failsAndChangesNothing(
            String what,
            Class<? extends RuntimeException> due,
            Consumer<SerialBus> story,
            Consumer<SerialBus> call) {
        for (int ticks = 0; ticks <= 40; ticks += 20) {
            SerialBus spared = new SerialBus();
            SerialBus tried = new SerialBus();
            story.accept(spared);
            story.accept(tried);
            fails(what, due, () -> call.accept(tried));
            goOn(spared, ticks);
            goOn(tried, ticks);
            is(what + " changes nothing, " + ticks + " ticks later", picture(tried), picture(spared));
        }
    }

    /** What the pictures do not show at once (BITS, TALK, TIME, free PORTS) shows by and by. */
    private static void goOn(SerialBus bus, int ticks) {
        if (ticks == 0) {
            return;
        }
        try {
            bus.ask(7, 7, 0, 0, 0, 0);
        } catch (IllegalStateException | UnsupportedOperationException e) {
            // The story has filled the node: then there is nothing to add.
        }
        bus.tick(ticks / 2);
        bus.reset(4, 21, true, false);
        bus.tick(ticks / 2);
    }

    static String picture(SerialBus bus) {
        StringBuilder text = new StringBuilder();
        for (int what = 0; what < 8; what++) {
            text.append(bus.count(what)).append(' ');
        }
        for (int node = 0; node < 12; node++) {
            text.append("| ");
            for (int what = 0; what < 9; what++) {
                text.append(bus.about(node, what)).append(' ');
            }
            for (int word = 0; word < 8; word++) {
                text.append(bus.word(node, word)).append(' ');
            }
            for (int label = 0; label < 4; label++) {
                text.append(end(bus, node, label)).append(' ');
            }
        }
        return text.toString();
    }

    private static String end(SerialBus bus, int node, int label) {
        try {
            return String.valueOf(bus.ended(node, label));
        } catch (IllegalStateException e) {
            return "free";
        }
    }

    static void finish() {
        System.out.println(compared + " answers, " + wrong + " not as due");
        if (wrong != 0 || compared == 0) {
            System.exit(1);
        }
    }
}
