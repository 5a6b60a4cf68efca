/** Promise 11. */
public final class AboutTest {
    public static void main(String[] args) {
        numberIsNoneWhileDirtyOrLooped();
        treeIsThatOfTheLastReset();
        loopedHasNoTree();
        packetsAndWaiting();
        used();
        refuses();
        Due.finish();
    }

    private static void numberIsNoneWhileDirtyOrLooped() {
        SerialBus bus = Stories.chain(3);
        Due.is("before the first reset", bus.about(1, 0), -1);
        bus.tick(1);
        Due.is("number of 0", bus.about(0, 0), 0);
        Due.is("number of 1", bus.about(1, 0), 2);
        Due.is("number of 2", bus.about(2, 0), 1);
        bus.reset(0, 0, false, false);
        Due.is("number of 2 while dirty", bus.about(2, 0), -1);
        bus.tick(1);
        Due.is("number of 2 again", bus.about(2, 0), 1);
        bus.plug(0, 0, 2, 1);
        bus.tick(1);
        Due.is("number of 2 while looped", bus.about(2, 0), -1);
    }

    private static void treeIsThatOfTheLastReset() {
        SerialBus bus = Stories.threeManaged();
        bus.unplug(2, 0);
        bus.plug(2, 0, 9, 0);
        Due.is("parent of 2 as found", bus.about(2, 1), 1);
        Due.is("root of 2 as found", bus.about(2, 2), 1);
        Due.is("manager of 2 as found", bus.about(2, 3), 0);
        Due.is("root of 9 as found", bus.about(9, 2), 9);
        Due.is("parent of 1", bus.about(1, 1), -1);
        bus.reset(2, 1, false, false);
        bus.reset(0, 1, false, false);
        bus.tick(1);
        Due.is("parent of 2 now", bus.about(2, 1), -1);
        Due.is("parent of 9 now", bus.about(9, 1), 2);
        Due.is("root of 9 now", bus.about(9, 2), 2);
        Due.is("manager of 2 now", bus.about(2, 3), -1);
        Due.is("parent of 1 now", bus.about(1, 1), 0);
        Due.is("root of 1 now", bus.about(1, 2), 0);
        Due.is("manager of 1 now", bus.about(1, 3), -1);
    }

    private static void loopedHasNoTree() {
        SerialBus bus = Stories.threeManaged();
        bus.plug(0, 0, 3, 0);
        bus.reset(1, 1, false, false);
        bus.tick(1);
        Due.is("manager", bus.about(3, 3), 0);
        bus.plug(0, 2, 1, 2);
        bus.tick(1);
        for (int node = 0; node < 4; node++) {
            for (int what = 0; what < 4; what++) {
                Due.is("about(" + node + ", " + what + "), looped", bus.about(node, what), -1);
            }
        }
    }

    private static void packetsAndWaiting() {
        SerialBus bus = Stories.three();
        bus.ask(0, 2, Stories.READ, 0, 0, 0);
        bus.ask(0, 2, Stories.READ, 0, 0, 0);
        bus.tick(1);
        Due.is("packets of 0", bus.about(0, 4), 1);
        Due.is("packets of 2", bus.about(2, 4), 1);
        Due.is("waiting of 0", bus.about(0, 7), 2);
        Due.is("waiting of 2", bus.about(2, 7), 0);
        bus.tick(1);
        Due.is("waiting of 0, one done", bus.about(0, 7), 1);
        Due.is("packets of 2, sent", bus.about(2, 4), 0);
    }

    private static void used() {
        SerialBus bus = Stories.three();
        bus.ask(0, 2, Stories.READ, 0, 0, 0);
        Due.is("not used", bus.about(0, 8), 0);
        bus.tick(1);
        Due.is("used", bus.about(0, 8), 1);
        Due.is("2 is not", bus.about(2, 8), 0);
        bus.tick(3);
        Due.is("used while nobody has packets", bus.about(0, 8), 1);
        bus.reset(2, 0, false, false);
        bus.tick(1);
        Due.is("not after a reset", bus.about(0, 8), 0);
    }

    private static void refuses() {
        int[] noWhats = {-1, 9, Integer.MIN_VALUE, Integer.MAX_VALUE};
        for (int no : Due.NO_NODES) {
            nothing("about " + no, Due.NO_NODE, no, 0);
            nothing("about: no node before no what", Due.NO_NODE, no, 9);
        }
        for (int no : noWhats) {
            nothing("about what " + no, Due.ARGUMENT, 1, no);
        }
    }

    private static void nothing(String what, Class<? extends RuntimeException> due, int a, int n) {
        Due.failsAndChangesNothing(what, due, Stories::mixed, bus -> bus.about(a, n));
    }
}
