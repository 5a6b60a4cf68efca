import java.util.ArrayList;
import java.util.LinkedHashMap;
import java.util.List;
import java.util.Map;
import java.util.function.Consumer;
import java.util.function.IntSupplier;

/** Compares answers with those that are due; every test ends with finish(). */
final class Due {
    static final Class<? extends RuntimeException> NO_NODE = java.util.NoSuchElementException.class;
    static final Class<? extends RuntimeException> ARGUMENT = IllegalArgumentException.class;
    static final Class<? extends RuntimeException> STATE = IllegalStateException.class;
    static final Class<? extends RuntimeException> UNSUPPORTED = UnsupportedOperationException.class;

    static final int[] NO_NODES = outside(0, 11);

    /** TIME is 9 after Stories.mixed and 20 at first: the ticks just before and then tell it. */
    private static final int[] LATER = {0, 1, 8, 9, 19, 20, 40};

    private static int compared = 0;
    private static int wrong = 0;

    private Due() {}

    /** The first numbers on each side that are not allowed, and the last that there are. */
    static int[] outside(int least, int most) {
        return new int[] {least - 1, most + 1, Integer.MIN_VALUE, Integer.MAX_VALUE};
    }

    static void is(String what, Object got, Object due) {
        compared++;
        if (!got.equals(due)) {
            wrong++;
            System.out.println(what + ": answered " + got + ", due is " + due);
        }
    }

    static void fails(String what, Class<? extends RuntimeException> due, Runnable call) {
        String thrown = "nothing";
        try {
            call.run();
        } catch (RuntimeException e) {
            thrown = e.getClass().getSimpleName();
        }
        is(what + " throws", thrown, due.getSimpleName());
    }

    /**
     * Two objects live through the same story, one of them also through the call that throws: no
     * later answer may tell them apart. All pictures are taken of new objects, as one object is
     * used for 512 calls only.
     */
    static void failsAndChangesNothing(
            String what,
            Class<? extends RuntimeException> due,
            Consumer<SerialBus> story,
            Consumer<SerialBus> call) {
        for (int ticks : LATER) {
            SerialBus spared = new SerialBus();
            SerialBus tried = new SerialBus();
            story.accept(spared);
            story.accept(tried);
            fails(what, due, () -> call.accept(tried));
            staysTheSame(what, spared, tried, ticks);
        }
    }

    /** As above, for a call that only tells. */
    static void tellsAndChangesNothing(
            String what, Consumer<SerialBus> story, Consumer<SerialBus> call) {
        for (int ticks : LATER) {
            SerialBus spared = new SerialBus();
            SerialBus asked = new SerialBus();
            story.accept(spared);
            story.accept(asked);
            call.accept(asked);
            staysTheSame(what, spared, asked, ticks);
        }
    }

    private static void staysTheSame(String what, SerialBus spared, SerialBus tried, int ticks) {
        goOn(spared, ticks);
        goOn(tried, ticks);
        String when = what + " changes nothing, " + ticks + " ticks later";
        is(when, picture(tried), picture(spared));
        is(when + ", ports and values", portsAndValues(tried), portsAndValues(spared));
    }

    /** What the pictures do not show at once (BITS, TALK, TIME) shows by and by. */
    private static void goOn(SerialBus bus, int ticks) {
        if (ticks == 0) {
            return;
        }
        askIfThereIsRoom(bus, 5);
        askIfThereIsRoom(bus, 7);
        if (ticks < 20) {
            bus.tick(ticks);
        } else {
            bus.tick(ticks / 2);
            bus.reset(4, 21, true, false);
            bus.tick(ticks - ticks / 2);
        }
    }

    private static void askIfThereIsRoom(SerialBus bus, int node) {
        try {
            bus.ask(node, node, 0, 0, 0, 0);
        } catch (IllegalStateException | UnsupportedOperationException e) {
            // The story has filled the node: then there is nothing to add.
        }
    }

    /** Takes all CABLES and ended REQUESTS away, so it comes last. */
    private static String portsAndValues(SerialBus bus) {
        StringBuilder text = new StringBuilder();
        for (int node = 0; node < 12; node++) {
            int a = node;
            for (int label = 0; label < 4; label++) {
                int l = label;
                text.append(answer(() -> bus.value(a, l))).append(' ');
            }
            for (int port = 0; port < 3; port++) {
                int p = port;
                text.append(answer(() -> bus.unplug(a, p))).append(' ');
            }
        }
        return text.toString();
    }

    static String answer(IntSupplier call) {
        try {
            return String.valueOf(call.getAsInt());
        } catch (RuntimeException e) {
            return e.getClass().getSimpleName();
        }
    }

    /** All that can be told at once, by the call that tells it. */
    private static Map<String, String> told(SerialBus bus) {
        Map<String, String> told = new LinkedHashMap<>();
        for (int what = 0; what < 8; what++) {
            told.put("count(" + what + ")", String.valueOf(bus.count(what)));
        }
        for (int node = 0; node < 12; node++) {
            int a = node;
            for (int what = 0; what < 9; what++) {
                told.put("about(" + a + ", " + what + ")", String.valueOf(bus.about(a, what)));
            }
            for (int word = 0; word < 8; word++) {
                told.put("word(" + a + ", " + word + ")", String.valueOf(bus.word(a, word)));
            }
            for (int label = 0; label < 4; label++) {
                int l = label;
                told.put("ended(" + a + ", " + l + ")", answer(() -> bus.ended(a, l)));
            }
        }
        return told;
    }

    static String picture(SerialBus bus) {
        return told(bus).toString();
    }

    /** What the second tells otherwise than the first, with the second's answers. */
    static List<String> changes(SerialBus before, SerialBus after) {
        List<String> changes = new ArrayList<>();
        Map<String, String> old = told(before);
        told(after).forEach((call, answer) -> {
            if (!answer.equals(old.get(call))) {
                changes.add(call + "=" + answer);
            }
        });
        return changes;
    }

    static void finish() {
        System.out.println(compared + " answers, " + wrong + " not as due");
        if (wrong != 0 || compared == 0) {
            System.exit(1);
        }
    }
}
