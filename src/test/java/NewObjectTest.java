/** Promise 1, and what the terms say is so at first. */
public final class NewObjectTest {
    public static void main(String[] args) {
        countsNothing();
        tellsNothingOfANode();
        wordsAtFirst();
        noRequests();
        allPortsAreFree();
        bitsAreZero();
        noHold();
        noContender();
        noTalk();
        allAreDirty();
        objectsAreApart();
        Due.finish();
    }

    /** "No CABLES"; "a NODE without CABLES is one alone"; "THE CLOCK shows 0 at first". */
    private static void countsNothing() {
        SerialBus bus = new SerialBus();
        int[] counts = {0, 12, 0, 0, 0, 0, 0, 0};
        for (int what = 0; what < counts.length; what++) {
            Due.is("count(" + what + ")", bus.count(what), counts[what]);
        }
    }

    private static void tellsNothingOfANode() {
        SerialBus bus = new SerialBus();
        int[] told = {-1, -1, -1, -1, 0, 0, 0, 0, 0};
        for (int node = 0; node < 12; node++) {
            for (int what = 0; what < told.length; what++) {
                Due.is("about(" + node + ", " + what + ")", bus.about(node, what), told[what]);
            }
        }
    }

    /** "eight WORDS 0 .. 7, ints, 0 at first but for WORDS 6 (100) and 7 (-1)". */
    private static void wordsAtFirst() {
        SerialBus bus = new SerialBus();
        int[] words = {0, 0, 0, 0, 0, 0, 100, -1};
        for (int node = 0; node < 12; node++) {
            for (int word = 0; word < words.length; word++) {
                Due.is("word(" + node + ", " + word + ")", bus.word(node, word), words[word]);
            }
        }
    }

    /** "No .. REQUESTS": all four LABELS are free, and ask gives them from the least on. */
    private static void noRequests() {
        SerialBus bus = new SerialBus();
        for (int node = 0; node < 12; node++) {
            for (int label = 0; label < 4; label++) {
                int n = node;
                int l = label;
                Due.fails("ended(" + n + ", " + l + ")", Due.STATE, () -> bus.ended(n, l));
                Due.fails("value(" + n + ", " + l + ")", Due.STATE, () -> bus.value(n, l));
                Due.is("ask", bus.ask(n, n, Stories.READ, 0, 0, 0), l);
            }
        }
    }

    /** "PORTS 0 .. 2, all free at first". */
    private static void allPortsAreFree() {
        SerialBus bus = new SerialBus();
        for (int node = 0; node < 12; node++) {
            for (int port = 0; port < 3; port++) {
                int n = node;
                int p = port;
                Due.fails("unplug(" + n + ", " + p + ")", Due.STATE, () -> bus.unplug(n, p));
            }
        }
        int cables = 0;
        for (int node = 0; node < 12; node += 2) {
            for (int port = 0; port < 3; port++) {
                cables++;
                Due.is("plug", bus.plug(node, port, node + 1, port), cables);
            }
        }
    }

    /** "BITS (a row of 16, all 0 at first, and a place in them, 0 at first)". */
    private static void bitsAreZero() {
        for (int node = 0; node < 12; node++) {
            for (int bit = 0; bit < 16; bit++) {
                int other = (node + 1) % 12;
                SerialBus bus = new SerialBus();
                bus.plug(node, 0, other, 0);
                bus.reset(other, 1 << bit, false, false);
                bus.tick(1);
                String where = "bit " + bit + " of " + node;
                Due.is(where + " is not 1", bus.about(node, Stories.ROOT), other);
                Due.is(where + " is in its place", bus.about(node, Stories.PLACE), (bit + 1) % 16);
            }
        }
    }

    /** "a mark HOLD .. not set at first": a leaf with HOLD would be the ROOT. */
    private static void noHold() {
        for (int node = 0; node < 12; node++) {
            int middle = (node + 1) % 12;
            SerialBus bus = new SerialBus();
            bus.plug(middle, 0, node, 0);
            bus.plug(middle, 1, (node + 2) % 12, 0);
            bus.tick(1);
            Due.is(node + " has no hold", bus.about(node, Stories.ROOT), middle);
        }
    }

    private static void noContender() {
        SerialBus bus = new SerialBus();
        bus.tick(1);
        for (int node = 0; node < 12; node++) {
            Due.is(node + " is no contender", bus.about(node, Stories.MANAGER), -1);
        }
    }

    /** "perhaps a TALK": none at first, though all channels are taken and no bandwidth is. */
    private static void noTalk() {
        SerialBus bus = Stories.chain(12);
        bus.reset(6, 1, false, true);
        bus.tick(1);
        bus.ask(6, 6, Stories.WRITE, 6, 0, 0);
        bus.ask(6, 6, Stories.WRITE, 7, 0, 0);
        bus.tick(50);
        Due.is("channels", bus.word(6, 7), 0);
        Due.is("nobody talks", bus.count(5), 0);
    }

    /** "DIRTY (.. all are so at first)": the first TICK is a RESET of each. */
    private static void allAreDirty() {
        SerialBus bus = new SerialBus();
        Due.is("the first tick", bus.tick(1), 1);
        Due.is("all are reset", bus.count(3), 12);
        bus.tick(1);
        Due.is("and once only", bus.count(3), 12);
        for (int node = 0; node < 12; node++) {
            Due.is("number of " + node, bus.about(node, Stories.NUMBER), 0);
        }
    }

    private static void objectsAreApart() {
        SerialBus fresh = new SerialBus();
        SerialBus changed = new SerialBus();
        Stories.allWait(changed);
        Due.is("an object that another changed", Due.picture(fresh), Due.picture(new SerialBus()));
    }
}
