import java.util.Arrays;
import java.util.NoSuchElementException;

/**
 * A bus of nodes that are joined port to port. Words in capitals in the comments are the terms of
 * the document DOC.md.
 */
public final class SerialBus {
    private static final int NODES = 12;
    private static final int PORTS = 3;
    private static final int SOCKETS = NODES * PORTS;
    private static final int LABELS = 4;
    private static final int WORDS = 8;
    private static final int QUEUE_ROOM = 6;
    private static final int CHANNELS = 32;
    private static final int FULL_BANDWIDTH = 100;

    private static final int BANDWIDTH_WORD = 6;
    private static final int CHANNELS_WORD = 7;
    private static final int ALL_CHANNELS_FREE = -1;

    private static final int BITS = 16;
    private static final int LOW_BITS = 0xFFFF;
    private static final int MOST_ROUNDS = 24;
    private static final int LAST_HOLD_ROUND = 4;

    private static final int TICKS_PER_CYCLE = 8;
    private static final int MOST_TICKS = 50;
    private static final int FIRST_TIME = 20;
    private static final int LEAST_TIME = 2;
    private static final int MOST_TIME = 60;
    private static final int MOST_SENDINGS = 4;

    private static final int READ = 0;
    private static final int WRITE = 1;
    private static final int SWAP = 2;

    private static final int WAITS = -1;
    private static final int DONE = 0;
    private static final int RESET = 1;
    private static final int BUSY = 2;
    private static final int NOBODY = 3;
    private static final int LATE = 4;

    private static final int NONE = -1;

    private final Wiring wiring;
    private final Tree tree;
    private final Node[] nodes;
    private int clock;
    private int timeToWait;
    private int resets;
    private int slotPackets;
    private int cyclePackets;
    private int usedTaken;

    public SerialBus() {
        wiring = new Wiring();
        tree = new Tree();
        nodes = new Node[NODES];
        for (int node = 0; node < NODES; node++) {
            nodes[node] = new Node();
        }
        timeToWait = FIRST_TIME;
    }

    public int plug(int a, int p, int b, int q)
            throws NoSuchElementException, IllegalArgumentException, IllegalStateException {
        checkNode(a);
        checkNode(b);
        checkPort(p);
        checkPort(q);
        if (a == b) {
            throw new IllegalArgumentException("a cable joins different nodes");
        }
        if (wiring.farNode(a, p) != NONE || wiring.farNode(b, q) != NONE) {
            throw new IllegalStateException("a port is not free");
        }
        wiring.join(a, p, b, q);
        nodes[a].dirty = true;
        nodes[b].dirty = true;
        return wiring.cables;
    }

    public int unplug(int a, int p)
            throws NoSuchElementException, IllegalArgumentException, IllegalStateException {
        checkNode(a);
        checkPort(p);
        int far = wiring.farNode(a, p);
        if (far == NONE) {
            throw new IllegalStateException("the port is free");
        }
        wiring.part(a, p);
        nodes[a].dirty = true;
        nodes[far].dirty = true;
        return far;
    }

    public void reset(int a, int bits, boolean hold, boolean contender)
            throws NoSuchElementException {
        checkNode(a);
        Node node = nodes[a];
        node.bits = bits & LOW_BITS;
        node.place = 0;
        node.hold = hold;
        node.contender = contender;
        node.dirty = true;
    }

    public int ask(int a, int b, int work, int w, int x, int v)
            throws NoSuchElementException, IllegalArgumentException, IllegalStateException,
                    UnsupportedOperationException {
        checkNode(a);
        checkNode(b);
        checkWord(w);
        if (work != READ && work != WRITE && work != SWAP) {
            throw new IllegalArgumentException("no such work");
        }
        Node asker = nodes[a];
        int label = asker.leastLabelThatDoesNotWait();
        if (label == NONE) {
            throw new IllegalStateException("all labels wait");
        }
        if (asker.queue.isFull()) {
            throw new UnsupportedOperationException("the queue is full");
        }
        Request request = new Request(b, work, w, x, v, clock + timeToWait);
        asker.labels[label] = request;
        asker.queue.append(request);
        return label;
    }

    public void talk(int a, int channel, int bandwidth)
            throws NoSuchElementException, IllegalArgumentException {
        checkNode(a);
        if (channel < 0 || channel >= CHANNELS) {
            throw new IllegalArgumentException("no such channel");
        }
        if (bandwidth < 0 || bandwidth > FULL_BANDWIDTH) {
            throw new IllegalArgumentException("no such bandwidth");
        }
        nodes[a].channel = channel;
        nodes[a].bandwidth = bandwidth;
    }

    public void time(int ticks) throws IllegalArgumentException {
        if (ticks < LEAST_TIME || ticks > MOST_TIME) {
            throw new IllegalArgumentException("no such time");
        }
        timeToWait = ticks;
    }

    public int tick(int n) throws IllegalArgumentException {
        if (n < 1 || n > MOST_TICKS) {
            throw new IllegalArgumentException("no such number of ticks");
        }
        for (int done = 0; done < n; done++) {
            for (int bus = 0; bus < NODES; bus++) {
                if (wiring.isBus(bus)) {
                    runBus(bus);
                }
            }
            clock++;
            endLateRequests();
        }
        return clock;
    }

    public int ended(int a, int l)
            throws NoSuchElementException, IllegalArgumentException, IllegalStateException {
        checkNode(a);
        checkLabel(l);
        Request request = nodes[a].labels[l];
        if (request == null) {
            throw new IllegalStateException("the label is free");
        }
        return request.end;
    }

    public int value(int a, int l)
            throws NoSuchElementException, IllegalArgumentException, IllegalStateException,
                    UnsupportedOperationException {
        checkNode(a);
        checkLabel(l);
        Request request = nodes[a].labels[l];
        if (request == null || request.end == WAITS) {
            throw new IllegalStateException("the label is free or waits");
        }
        nodes[a].labels[l] = null;
        if (request.end != DONE) {
            throw new UnsupportedOperationException("the request was not done");
        }
        return request.answer;
    }

    public int about(int a, int what) throws NoSuchElementException, IllegalArgumentException {
        checkNode(a);
        Node node = nodes[a];
        switch (what) {
            case 0:
                return isDirty(wiring.busOf(a)) ? NONE : node.number;
            case 1:
                return node.parent;
            case 2:
                return node.root;
            case 3:
                return node.manager;
            case 4:
                return node.queue.size;
            case 5:
                return node.heard;
            case 6:
                return node.place;
            case 7:
                return node.waitingRequests();
            case 8:
                return node.used ? 1 : 0;
            default:
                throw new IllegalArgumentException("nothing is told about that");
        }
    }

    public int word(int a, int w) throws NoSuchElementException, IllegalArgumentException {
        checkNode(a);
        checkWord(w);
        return nodes[a].words[w];
    }

    public int count(int what) {
        switch (what) {
            case 0:
                return wiring.cables;
            case 1:
                return wiring.buses();
            case 2:
                return clock;
            case 3:
                return resets;
            case 4:
                return slotPackets;
            case 5:
                return cyclePackets;
            case 6:
                return usedTaken;
            case 7:
                return loopedBuses();
            default:
                return NONE;
        }
    }

    private static void checkNode(int node) {
        if (node < 0 || node >= NODES) {
            throw new NoSuchElementException("no such node");
        }
    }

    private static void checkPort(int port) {
        if (port < 0 || port >= PORTS) {
            throw new IllegalArgumentException("no such port");
        }
    }

    private static void checkLabel(int label) {
        if (label < 0 || label >= LABELS) {
            throw new IllegalArgumentException("no such label");
        }
    }

    private static void checkWord(int word) {
        if (word < 0 || word >= WORDS) {
            throw new IllegalArgumentException("no such word");
        }
    }

    private boolean isDirty(int bus) {
        for (int node = 0; node < NODES; node++) {
            if (wiring.busOf(node) == bus && nodes[node].dirty) {
                return true;
            }
        }
        return false;
    }

    private int loopedBuses() {
        int looped = 0;
        for (int bus = 0; bus < NODES; bus++) {
            if (wiring.isBus(bus) && nodes[bus].looped && !isDirty(bus)) {
                looped++;
            }
        }
        return looped;
    }

    private void runBus(int bus) {
        if (isDirty(bus)) {
            resetBus(bus);
        } else if (!nodes[bus].looped) {
            // All NODES of a BUS that is not DIRTY know the same MANAGER.
            int manager = nodes[bus].manager;
            if (clock % TICKS_PER_CYCLE == 0 && manager != NONE) {
                runCycle(bus, nodes[manager]);
            } else {
                runSlot(bus);
            }
        }
    }

    private void resetBus(int bus) {
        for (int node = 0; node < NODES; node++) {
            if (wiring.busOf(node) == bus) {
                nodes[node].startAnew();
            }
        }
        boolean looped = !tree.findParents(wiring, nodes, bus);
        tree.settle(wiring, nodes, bus, looped);
        resets++;
    }

    private void runSlot(int bus) {
        Node sender = null;
        boolean somePackets = false;
        for (int node = 0; node < NODES; node++) {
            Node candidate = nodes[node];
            if (wiring.busOf(node) == bus && !candidate.queue.isEmpty()) {
                somePackets = true;
                if (!candidate.used && (sender == null || candidate.number > sender.number)) {
                    sender = candidate;
                }
            }
        }
        if (sender != null) {
            sendFirstPacket(sender, bus);
        } else if (somePackets) {
            takeUsedFromAll(bus);
        }
    }

    private void takeUsedFromAll(int bus) {
        for (int node = 0; node < NODES; node++) {
            if (wiring.busOf(node) == bus) {
                nodes[node].used = false;
            }
        }
        usedTaken++;
    }

    private void sendFirstPacket(Node sender, int bus) {
        Request packet = sender.queue.takeFirst();
        if (packet == null) {
            return;
        }
        sender.used = true;
        slotPackets++;
        if (packet.answered) {
            packet.endIfItWaits(DONE);
        } else {
            sendRequest(packet, sender, bus);
        }
    }

    private void sendRequest(Request request, Node sender, int bus) {
        request.sendings++;
        if (wiring.busOf(request.target) != bus) {
            request.endIfItWaits(NOBODY);
            return;
        }
        Node target = nodes[request.target];
        if (!target.queue.isFull()) {
            request.workOn(target.words);
            target.queue.append(request);
        } else if (request.sendings < MOST_SENDINGS) {
            sender.queue.append(request);
        } else {
            request.endIfItWaits(BUSY);
        }
    }

    private void runCycle(int bus, Node manager) {
        // A WORD may hold any int, so the difference needs a long.
        long room = (long) FULL_BANDWIDTH - manager.words[BANDWIDTH_WORD];
        int freeChannels = manager.words[CHANNELS_WORD];
        long sent = 0;
        for (int number = 0; number < NODES; number++) {
            int talker = nodeWithNumber(bus, number);
            if (talker != NONE && nodes[talker].bandwidth > 0) {
                boolean channelTaken = (freeChannels >> nodes[talker].channel & 1) == 0;
                if (channelTaken && sent + nodes[talker].bandwidth <= room) {
                    sent += nodes[talker].bandwidth;
                    letOthersHear(bus, talker);
                }
            }
        }
    }

    private int nodeWithNumber(int bus, int number) {
        for (int node = 0; node < NODES; node++) {
            if (wiring.busOf(node) == bus && nodes[node].number == number) {
                return node;
            }
        }
        return NONE;
    }

    private void letOthersHear(int bus, int talker) {
        for (int node = 0; node < NODES; node++) {
            if (wiring.busOf(node) == bus && node != talker) {
                nodes[node].heard++;
            }
        }
        cyclePackets++;
    }

    private void endLateRequests() {
        for (int node = 0; node < NODES; node++) {
            nodes[node].endLateRequests(clock);
        }
    }

    /**
     * The CABLES, and which NODES they make one BUS. A socket is a PORT of a NODE as one number. A
     * BUS goes by the least NODE in it.
     */
    private static final class Wiring {
        private final int[] farSocket = new int[SOCKETS];
        private final int[] busOfNode = new int[NODES];
        private int cables;

        Wiring() {
            Arrays.fill(farSocket, NONE);
            findBuses();
        }

        void join(int a, int p, int b, int q) {
            farSocket[a * PORTS + p] = b * PORTS + q;
            farSocket[b * PORTS + q] = a * PORTS + p;
            cables++;
            findBuses();
        }

        void part(int a, int p) {
            int socket = a * PORTS + p;
            int far = farSocket[socket];
            if (far == NONE) {
                return;
            }
            farSocket[socket] = NONE;
            farSocket[far] = NONE;
            cables--;
            findBuses();
        }

        int farNode(int node, int port) {
            int far = farSocket[node * PORTS + port];
            return far == NONE ? NONE : far / PORTS;
        }

        int busOf(int node) {
            return busOfNode[node];
        }

        boolean isBus(int node) {
            return busOfNode[node] == node;
        }

        int buses() {
            int buses = 0;
            for (int node = 0; node < NODES; node++) {
                if (isBus(node)) {
                    buses++;
                }
            }
            return buses;
        }

        private void findBuses() {
            for (int node = 0; node < NODES; node++) {
                busOfNode[node] = node;
            }
            // The least NODE goes at least one CABLE further in each pass.
            for (int pass = 1; pass < NODES; pass++) {
                for (int socket = 0; socket < SOCKETS; socket++) {
                    if (farSocket[socket] != NONE) {
                        int node = socket / PORTS;
                        int far = farSocket[socket] / PORTS;
                        busOfNode[node] = Math.min(busOfNode[node], busOfNode[far]);
                    }
                }
            }
        }
    }

    /** Finds TREE and NUMBERS of one BUS; its rows are only kept to be used again. */
    private static final class Tree {
        private final boolean[] open = new boolean[SOCKETS];
        private final int[] askedSocket = new int[NODES];

        /** Whether all CABLES could be closed; if not, the BUS is LOOPED. */
        boolean findParents(Wiring wiring, Node[] nodes, int bus) {
            openCables(wiring, bus);
            for (int round = 1; round <= MOST_ROUNDS && someCableIsOpen(); round++) {
                chooseAskers(nodes, round);
                closeAskedCables(wiring, nodes);
            }
            return !someCableIsOpen();
        }

        void settle(Wiring wiring, Node[] nodes, int bus, boolean looped) {
            int root = NONE;
            int manager = NONE;
            if (!looped) {
                root = findRoot(wiring, nodes, bus);
                giveNumbers(wiring, nodes, root, 0, 0);
                manager = findManager(wiring, nodes, bus);
            }
            for (int node = 0; node < NODES; node++) {
                if (wiring.busOf(node) == bus) {
                    nodes[node].learn(looped, root, manager);
                }
            }
        }

        private void openCables(Wiring wiring, int bus) {
            for (int socket = 0; socket < SOCKETS; socket++) {
                boolean ofBus = wiring.busOf(socket / PORTS) == bus;
                open[socket] = ofBus && wiring.farSocket[socket] != NONE;
            }
        }

        private boolean someCableIsOpen() {
            for (int socket = 0; socket < SOCKETS; socket++) {
                if (open[socket]) {
                    return true;
                }
            }
            return false;
        }

        private void chooseAskers(Node[] nodes, int round) {
            for (int node = 0; node < NODES; node++) {
                boolean held = nodes[node].hold && round <= LAST_HOLD_ROUND;
                askedSocket[node] = held ? NONE : onlyOpenSocket(node);
            }
        }

        private int onlyOpenSocket(int node) {
            int only = NONE;
            int found = 0;
            for (int port = 0; port < PORTS; port++) {
                if (open[node * PORTS + port]) {
                    only = node * PORTS + port;
                    found++;
                }
            }
            return found == 1 ? only : NONE;
        }

        private void closeAskedCables(Wiring wiring, Node[] nodes) {
            for (int node = 0; node < NODES; node++) {
                int socket = askedSocket[node];
                int farSocket = socket == NONE ? NONE : wiring.farSocket[socket];
                if (farSocket != NONE) {
                    int far = farSocket / PORTS;
                    if (askedSocket[far] != farSocket) {
                        close(nodes[node], far, socket, farSocket);
                    } else if (node < far) {
                        // Both ends ASK: looked at once, from the lesser NODE.
                        contend(nodes, socket, farSocket);
                    }
                }
            }
        }

        private void contend(Node[] nodes, int socket, int farSocket) {
            int node = socket / PORTS;
            int far = farSocket / PORTS;
            int bit = nodes[node].takeBit();
            int farBit = nodes[far].takeBit();
            if (bit < farBit) {
                close(nodes[node], far, socket, farSocket);
            } else if (bit > farBit) {
                close(nodes[far], node, socket, farSocket);
            }
        }

        private void close(Node child, int parent, int socket, int farSocket) {
            child.parent = parent;
            open[socket] = false;
            open[farSocket] = false;
        }

        private int findRoot(Wiring wiring, Node[] nodes, int bus) {
            for (int node = 0; node < NODES; node++) {
                if (wiring.busOf(node) == bus && nodes[node].parent == NONE) {
                    return node;
                }
            }
            return bus;
        }

        private int giveNumbers(Wiring wiring, Node[] nodes, int node, int first, int depth) {
            if (depth >= NODES) {
                return first;
            }
            int next = first;
            for (int port = 0; port < PORTS; port++) {
                int child = wiring.farNode(node, port);
                if (child != NONE && nodes[child].parent == node) {
                    next = giveNumbers(wiring, nodes, child, next, depth + 1);
                }
            }
            nodes[node].number = next;
            return next + 1;
        }

        private int findManager(Wiring wiring, Node[] nodes, int bus) {
            int manager = NONE;
            int greatest = NONE;
            for (int node = 0; node < NODES; node++) {
                boolean contends = wiring.busOf(node) == bus && nodes[node].contender;
                if (contends && nodes[node].number > greatest) {
                    manager = node;
                    greatest = nodes[node].number;
                }
            }
            return manager;
        }
    }

    private static final class Node {
        private final int[] words = new int[WORDS];
        private final Queue queue = new Queue();
        private final Request[] labels = new Request[LABELS];
        private int bits;
        private int place;
        private boolean hold;
        private boolean contender;
        private int channel;
        /** 0 means that there is no TALK. */
        private int bandwidth;
        private int heard;
        private boolean used;
        private boolean dirty = true;
        private boolean looped;
        private int number = NONE;
        private int parent = NONE;
        private int root = NONE;
        private int manager = NONE;

        Node() {
            words[BANDWIDTH_WORD] = FULL_BANDWIDTH;
            words[CHANNELS_WORD] = ALL_CHANNELS_FREE;
        }

        void startAnew() {
            for (int label = 0; label < LABELS; label++) {
                if (labels[label] != null) {
                    labels[label].endIfItWaits(RESET);
                }
            }
            queue.empty();
            used = false;
            words[BANDWIDTH_WORD] = FULL_BANDWIDTH;
            words[CHANNELS_WORD] = ALL_CHANNELS_FREE;
            number = NONE;
            parent = NONE;
            dirty = false;
        }

        void learn(boolean busLooped, int busRoot, int busManager) {
            looped = busLooped;
            root = busRoot;
            manager = busManager;
            if (busLooped) {
                // Some CABLES may have been closed before the ROUNDS ran out.
                parent = NONE;
            }
        }

        int takeBit() {
            int bit = bits >> place & 1;
            place = (place + 1) % BITS;
            return bit;
        }

        int leastLabelThatDoesNotWait() {
            for (int label = 0; label < LABELS; label++) {
                if (!waits(label)) {
                    return label;
                }
            }
            return NONE;
        }

        int waitingRequests() {
            int waiting = 0;
            for (int label = 0; label < LABELS; label++) {
                if (waits(label)) {
                    waiting++;
                }
            }
            return waiting;
        }

        void endLateRequests(int clock) {
            for (int label = 0; label < LABELS; label++) {
                Request request = labels[label];
                if (request != null && request.end == WAITS && request.lateAt <= clock) {
                    request.endIfItWaits(LATE);
                    // An ANSWER that is on its way is another PACKET: it stays.
                    if (!request.answered) {
                        queue.drop(request);
                    }
                }
            }
        }

        private boolean waits(int label) {
            return labels[label] != null && labels[label].end == WAITS;
        }
    }

    /** PACKETS in the order in which they are sent. */
    private static final class Queue {
        private final Request[] packets = new Request[QUEUE_ROOM];
        private int size;

        boolean isEmpty() {
            return size == 0;
        }

        boolean isFull() {
            return size >= QUEUE_ROOM;
        }

        void append(Request packet) {
            if (!isFull()) {
                packets[size] = packet;
                size++;
            }
        }

        Request takeFirst() {
            if (isEmpty()) {
                return null;
            }
            Request first = packets[0];
            removeAt(0);
            return first;
        }

        void drop(Request packet) {
            for (int place = 0; place < size; place++) {
                if (packets[place] == packet) {
                    removeAt(place);
                    return;
                }
            }
        }

        void empty() {
            for (int place = 0; place < QUEUE_ROOM; place++) {
                packets[place] = null;
            }
            size = 0;
        }

        private void removeAt(int gap) {
            for (int place = gap; place + 1 < size; place++) {
                packets[place] = packets[place + 1];
            }
            size--;
            packets[size] = null;
        }
    }

    /**
     * A REQUEST, and its PACKET too: it stands in the asker's QUEUE until its work is done, and then
     * in the other NODE's QUEUE as the ANSWER. So an ANSWER finds the REQUEST it belongs to, even if
     * the LABEL has got a new one since.
     */
    private static final class Request {
        private final int target;
        private final int work;
        private final int wordNumber;
        private final int expected;
        private final int given;
        private final int lateAt;
        private int end = WAITS;
        private int sendings;
        private boolean answered;
        private int answer;

        Request(int target, int work, int wordNumber, int expected, int given, int lateAt) {
            this.target = target;
            this.work = work;
            this.wordNumber = wordNumber;
            this.expected = expected;
            this.given = given;
            this.lateAt = lateAt;
        }

        void endIfItWaits(int how) {
            if (end == WAITS) {
                end = how;
            }
        }

        void workOn(int[] words) {
            int old = words[wordNumber];
            answer = work == WRITE ? 0 : old;
            if (work == WRITE || work == SWAP && old == expected) {
                words[wordNumber] = given;
            }
            answered = true;
        }
    }
}
