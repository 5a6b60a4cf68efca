/** Promise 1. */
public final class NewObjectTest {
    public static void main(String[] args) {
        SerialBus bus = new SerialBus();
        int[] counts = {0, 12, 0, 0, 0, 0, 0, 0};
        for (int what = 0; what < counts.length; what++) {
            Due.is("count(" + what + ")", bus.count(what), counts[what]);
        }
        int[] told = {-1, -1, -1, -1, 0, 0, 0, 0, 0};
        int[] words = {0, 0, 0, 0, 0, 0, 100, -1};
        for (int node = 0; node < 12; node++) {
            for (int what = 0; what < told.length; what++) {
                Due.is("about(" + node + ", " + what + ")", bus.about(node, what), told[what]);
            }
            for (int word = 0; word < words.length; word++) {
                Due.is("word(" + node + ", " + word + ")", bus.word(node, word), words[word]);
            }
            for (int label = 0; label < 4; label++) {
                int n = node;
                int l = label;
                Due.fails("ended(" + n + ", " + l + ")", Due.STATE, () -> bus.ended(n, l));
            }
        }
        allPortsAreFree();
        neitherHoldNorContender();
        objectsAreApart();
        Due.finish();
    }

    private static void allPortsAreFree() {
        SerialBus bus = new SerialBus();
        for (int node = 0; node < 12; node++) {
            for (int port = 0; port < 3; port++) {
                int n = node;
                int p = port;
                Due.fails("unplug(" + n + ", " + p + ")", Due.STATE, () -> bus.unplug(n, p));
            }
        }
        int cables = 0;
        for (int node = 0; node < 12; node += 2) {
            for (int port = 0; port < 3; port++) {
                cables++;
                Due.is("plug", bus.plug(node, port, node + 1, port), cables);
            }
        }
    }

    private static void neitherHoldNorContender() {
        SerialBus bus = Stories.chain(2);
        bus.reset(1, 1, false, false);
        bus.tick(1);
        Due.is("node 0 asks in round 1, too", bus.about(0, Stories.PLACE), 1);
        Due.is("node 0 is no contender", bus.about(0, Stories.MANAGER), -1);
    }

    private static void objectsAreApart() {
        SerialBus changed = new SerialBus();
        Stories.mixed(changed);
        SerialBus fresh = new SerialBus();
        Due.is("cables of another object", fresh.count(0), 0);
        Due.is("clock of another object", fresh.count(2), 0);
        Due.is("packets of another object", fresh.about(1, Stories.PACKETS), 0);
    }
}
