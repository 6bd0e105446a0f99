import java.util.Arrays;

/**
 * Nodes that pay one another without a common order, each transfer spread by a reliable broadcast of its own.
 * The promises in the comments are those of DOC.md.
 */
public final class EchoPayments {
    public static final int REFUSED = -1;
    public static final int ABSENT = -2;
    public static final int MALFORMED = -3;
    public static final int STRANGER = -4;
    public static final int OLD = -5;
    public static final int REPEATED = -6;
    public static final int CRASHED = -7;
    public static final int FULL = -8;
    public static final int POOR = -9;

    private static final int INIT = 0;
    private static final int ECHO = 1;
    private static final int READY = 2;
    private static final int DONE = 3;
    private static final int MARK = 4;

    private static final int UP = 0;
    private static final int DOWN = 1;
    private static final int FAULTY = 2;

    private static final int LEAST_NODES = 4;
    private static final int MOST_NODES = 7;
    private static final int MOST_START = 1000;
    private static final int MOST_AMOUNT = 1023;
    private static final int MOST_FUSE = 9;
    private static final int MOST_PUMPED = 8;
    private static final int TRANSFERS = 5;

    private static final int INSTANCES = MOST_NODES * TRANSFERS;
    private static final int TOPICS = MARK * INSTANCES + 1;
    private static final int MARK_TOPIC = MARK * INSTANCES;

    private static final int TAKEN = 0;
    private static final int NONE = -1;

    private final int size;
    private final int mostFaulty;
    private final Node[] nodes;
    private int faultyNodes;

    /** Promise 1. */
    public EchoPayments(int nodes, int start) {
        size = Math.max(LEAST_NODES, Math.min(MOST_NODES, nodes));
        mostFaulty = (size - 1) / 3;
        this.nodes = new Node[size];
        long opening = Math.max(0, Math.min(MOST_START, start));
        for (int i = 0; i < size; i++) {
            this.nodes[i] = new Node(i, size, mostFaulty, opening);
        }
    }

    /** Promise 2. */
    public int submit(int node, int payee, int amount) {
        if (!isUp(node) || !isNode(payee) || payee == node || amount < 1 || amount > MOST_AMOUNT) {
            return REFUSED;
        }
        return nodes[node].writeSubmission(payee, amount);
    }

    /** Promise 3. */
    public boolean corrupt(int node) {
        if (!isCorrect(node) || faultyNodes >= mostFaulty) {
            return false;
        }
        nodes[node].turnFaulty();
        faultyNodes++;
        return true;
    }

    /** Promise 4. */
    public int forge(int from, int to, int head, long paper) {
        if (state(from) != FAULTY || !isUp(to)) {
            return REFUSED;
        }
        int topic = topicOf(head & 7, head >> 3 & 7, head >> 6);
        return topic == NONE ? MALFORMED : nodes[to].receive(topic, from, paper);
    }

    /** Promise 5. */
    public int carry(int from, int to, int kind, int account, int seq) {
        if (!isCorrect(from) || !isUp(to)) {
            return REFUSED;
        }
        int topic = topicOf(kind, account, seq);
        if (topic == NONE || nodes[from].said(topic) == NONE) {
            return ABSENT;
        }
        return nodes[to].receive(topic, from, nodes[from].said(topic));
    }

    /** Promise 6. */
    public int pump(int k) {
        if (k < 1 || k > MOST_PUMPED) {
            return REFUSED;
        }
        for (int received = 0; received < k; received++) {
            int message = firstPending();
            if (message == NONE) {
                return received;
            }
            int topic = message / (MOST_NODES * MOST_NODES);
            int from = message / MOST_NODES % MOST_NODES;
            nodes[message % MOST_NODES].receive(topic, from, nodes[from].said(topic));
        }
        return k;
    }

    /** Promise 7. */
    public int pending() {
        int count = 0;
        for (int topic = 0; topic < TOPICS; topic++) {
            for (int from = 0; from < size; from++) {
                count += Integer.bitCount(takers(topic, from));
            }
        }
        return count;
    }

    /** Promise 8. */
    public boolean crash(int node) {
        if (!isUp(node)) {
            return false;
        }
        nodes[node].goDown();
        return true;
    }

    /** Promise 9. */
    public boolean restart(int node) {
        if (state(node) != DOWN) {
            return false;
        }
        nodes[node].comeUp();
        return true;
    }

    /** Promise 10. */
    public boolean fuse(int node, int k) {
        if (!isUp(node) || k < 0 || k > MOST_FUSE) {
            return false;
        }
        nodes[node].setFuse(k);
        return true;
    }

    /** Promise 11. */
    public int mark(int node) {
        return isUp(node) ? nodes[node].writeMark() : REFUSED;
    }

    /** Promise 12. */
    public long sent(int node, int kind, int account, int seq) {
        int topic = topicOf(kind, account, seq);
        return isCorrect(node) && topic != NONE ? nodes[node].said(topic) : NONE;
    }

    /** Promise 13. */
    public int heard(int node, int kind, int account, int seq) {
        int topic = topicOf(kind, account, seq);
        if (!isCorrect(node) || topic == NONE || kind == INIT) {
            return NONE;
        }
        return nodes[node].countTellers(topic);
    }

    /** Promise 14. */
    public long accepted(int node, int account, int seq) {
        int topic = topicOf(DONE, account, seq);
        return isCorrect(node) && topic != NONE ? nodes[node].acceptedFor(Topic.instance(topic)) : NONE;
    }

    /** Promise 15. */
    public int applied(int node, int account) {
        return isCorrect(node) && isNode(account) ? nodes[node].appliedOf(account) : NONE;
    }

    /** Promise 16. */
    public long balance(int node, int account) {
        return isCorrect(node) && isNode(account) ? nodes[node].balanceOf(account) : NONE;
    }

    /** Promise 17. */
    public int freed(int node, int account) {
        return isCorrect(node) && isNode(account) ? nodes[node].freedOf(account) : NONE;
    }

    /** Promise 18. */
    public int kept(int node) {
        return isCorrect(node) ? nodes[node].countKept() : NONE;
    }

    /** Promise 19. */
    public int state(int node) {
        return isNode(node) ? nodes[node].condition() : NONE;
    }

    private boolean isNode(int node) {
        return node >= 0 && node < size;
    }

    private boolean isCorrect(int node) {
        return isNode(node) && nodes[node].condition() != FAULTY;
    }

    private boolean isUp(int node) {
        return isNode(node) && nodes[node].condition() == UP;
    }

    private int topicOf(int kind, int account, int seq) {
        if (kind == MARK) {
            return account == 0 && seq == 0 ? MARK_TOPIC : NONE;
        }
        if (kind < INIT || kind > DONE || !isNode(account) || seq < 1 || seq > TRANSFERS) {
            return NONE;
        }
        return Topic.of(kind, account, seq);
    }

    /** One number for topic, sender and receiver, so that the search makes no object. */
    private int firstPending() {
        for (int topic = 0; topic < TOPICS; topic++) {
            for (int from = 0; from < size; from++) {
                int takers = takers(topic, from);
                for (int to = 0; takers != 0 && to < size; to++) {
                    if ((takers >> to & 1) == 1) {
                        return (topic * MOST_NODES + from) * MOST_NODES + to;
                    }
                }
            }
        }
        return NONE;
    }

    /**
     * The nodes, one bit each, that would take what a node has sent on a topic. Whether it is well formed is not
     * asked: a correct node writes nothing that is not.
     */
    private int takers(int topic, int from) {
        long p = nodes[from].said(topic);
        if (p == NONE || !isCorrect(from)) {
            return 0;
        }
        int takers = 0;
        for (int to = 0; to < size; to++) {
            if (nodes[to].wouldTake(topic, from, p)) {
                takers |= 1 << to;
            }
        }
        return takers;
    }

    /**
     * What a message is about, its kind and its instance, as one number. The numbers rise in the order in which pump
     * delivers; the marks, which have no instance, have the last one.
     */
    private static final class Topic {
        static int of(int kind, int account, int seq) {
            return (kind * MOST_NODES + account) * TRANSFERS + seq - 1;
        }

        static int at(int kind, int instance) {
            return kind * INSTANCES + instance;
        }

        static int kind(int topic) {
            return topic / INSTANCES;
        }

        static int instance(int topic) {
            return topic % INSTANCES;
        }

        static int account(int topic) {
            return topic % INSTANCES / TRANSFERS;
        }

        static int seq(int topic) {
            return topic % TRANSFERS + 1;
        }
    }

    /** The fields of a paper, and of a mark, which are packed into a long. */
    private static final class Paper {
        private static final int NEEDS_AT = 13;

        static int payee(long p) {
            return (int) (p & 7);
        }

        static int amount(long p) {
            return (int) (p >> 3 & MOST_AMOUNT);
        }

        static int need(long p, int account) {
            return (int) (p >> (NEEDS_AT + 3 * account) & 7);
        }

        static long make(int payee, int amount, long needs) {
            return payee | (long) amount << 3 | needs << NEEDS_AT;
        }

        static int digit(long digits, int account) {
            return (int) (digits >> (3 * account) & 7);
        }

        /** The needs are as the digits of a mark, which also keeps p within 0 .. 2^34 - 1. */
        static boolean isWellFormed(long p, int owner, int size) {
            if (payee(p) >= size || payee(p) == owner || amount(p) == 0) {
                return false;
            }
            return need(p, owner) == 0 && isMark(p >> NEEDS_AT, size);
        }

        static boolean isMark(long digits, int size) {
            if (digits < 0 || digits >= 1L << (3 * size)) {
                return false;
            }
            for (int c = 0; c < size; c++) {
                if (digit(digits, c) > TRANSFERS) {
                    return false;
                }
            }
            return true;
        }
    }

    /** One node. Its store is said, submissions, applied, freed and balances; its head is told and accepted. */
    private static final class Node {
        private final int me;
        private final int size;
        private final int mostFaulty;
        private int condition = UP;
        private int fuseLeft;
        private int submissions;
        /** By topic: what it has sent, which is also the paper that it submitted, wrote or applied there. */
        private final long[] said = new long[TOPICS];
        private final int[] appliedCount = new int[MOST_NODES];
        private final int[] freedCount = new int[MOST_NODES];
        private final long[] balances = new long[MOST_NODES];
        /** By topic, then sender: what it has heard. */
        private final long[] told = new long[TOPICS * MOST_NODES];
        private final long[] acceptedPapers = new long[INSTANCES];

        Node(int me, int size, int mostFaulty, long opening) {
            this.me = me;
            this.size = size;
            this.mostFaulty = mostFaulty;
            Arrays.fill(said, NONE);
            Arrays.fill(told, NONE);
            Arrays.fill(acceptedPapers, NONE);
            Arrays.fill(balances, opening);
        }

        int condition() {
            return condition;
        }

        long said(int topic) {
            return said[topic];
        }

        long acceptedFor(int instance) {
            return acceptedPapers[instance];
        }

        int appliedOf(int account) {
            return appliedCount[account];
        }

        long balanceOf(int account) {
            return balances[account];
        }

        int freedOf(int account) {
            return freedCount[account];
        }

        void turnFaulty() {
            condition = FAULTY;
        }

        void comeUp() {
            condition = UP;
        }

        void setFuse(int k) {
            fuseLeft = k;
        }

        void goDown() {
            condition = DOWN;
            fuseLeft = 0;
            Arrays.fill(told, NONE);
            Arrays.fill(acceptedPapers, NONE);
        }

        int writeSubmission(int payee, int amount) {
            if (submissions >= TRANSFERS) {
                return FULL;
            }
            if (spendable() < amount) {
                return POOR;
            }
            if (!write(Topic.of(INIT, me, submissions + 1), Paper.make(payee, amount, needs()))) {
                return CRASHED;
            }
            submissions++;
            return submissions;
        }

        int writeMark() {
            long mark = 0;
            for (int c = 0; c < size; c++) {
                mark |= (long) appliedCount[c] << (3 * c);
            }
            return write(MARK_TOPIC, mark) ? (int) mark : CRASHED;
        }

        int receive(int topic, int from, long p) {
            if (!isWellFormed(topic, p)) {
                return MALFORMED;
            }
            int objection = objection(topic, from, p);
            return objection == TAKEN ? take(topic, from, p) : objection;
        }

        /** That the same was told before is asked first, since in a long run most messages end there. */
        boolean wouldTake(int topic, int from, long p) {
            return condition == UP && told[topic * MOST_NODES + from] != p && objection(topic, from, p) == TAKEN;
        }

        /** TAKEN, or why a message that is well formed is not taken. */
        private int objection(int topic, int from, long p) {
            int kind = Topic.kind(topic);
            long before = told[topic * MOST_NODES + from];
            if (kind == MARK) {
                return before == p ? REPEATED : TAKEN;
            }
            int account = Topic.account(topic);
            if (kind == INIT && from != account) {
                return STRANGER;
            }
            if (Topic.seq(topic) <= freedCount[account]) {
                return OLD;
            }
            if (kind == INIT) {
                before = said[Topic.at(ECHO, Topic.instance(topic))];
            }
            return before == NONE ? TAKEN : REPEATED;
        }

        int countTellers(int topic) {
            int count = 0;
            for (int from = 0; from < size; from++) {
                if (told[topic * MOST_NODES + from] != NONE) {
                    count++;
                }
            }
            return count;
        }

        int countKept() {
            int count = 0;
            for (int instance = 0; instance < INSTANCES; instance++) {
                if (keeps(instance)) {
                    count++;
                }
            }
            return count;
        }

        private boolean keeps(int instance) {
            if (said[Topic.at(ECHO, instance)] != NONE || said[Topic.at(READY, instance)] != NONE) {
                return true;
            }
            return countTellers(Topic.at(ECHO, instance)) > 0
                    || countTellers(Topic.at(READY, instance)) > 0
                    || countTellers(Topic.at(DONE, instance)) > 0;
        }

        private boolean isWellFormed(int topic, long p) {
            if (topic == MARK_TOPIC) {
                return Paper.isMark(p, size);
            }
            return Paper.isWellFormed(p, Topic.account(topic), size);
        }

        private int take(int topic, int from, long p) {
            int kind = Topic.kind(topic);
            int instance = Topic.instance(topic);
            if (kind == INIT) {
                return write(Topic.at(ECHO, instance), p) ? TAKEN : CRASHED;
            }
            told[topic * MOST_NODES + from] = p;
            if (kind == MARK) {
                freeWhatIsMarked();
                return TAKEN;
            }
            if (callsForReady(kind, instance, p) && !write(Topic.at(READY, instance), p)) {
                return CRASHED;
            }
            if (isAcceptable(instance, p)) {
                acceptedPapers[instance] = p;
            }
            return applyWhatIsValid();
        }

        private boolean callsForReady(int kind, int instance, long p) {
            if (said[Topic.at(READY, instance)] != NONE) {
                return false;
            }
            if (kind == ECHO) {
                return countTellersOf(Topic.at(ECHO, instance), p) >= (size + mostFaulty) / 2 + 1;
            }
            return kind == READY && countTellersOf(Topic.at(READY, instance), p) >= mostFaulty + 1;
        }

        private boolean isAcceptable(int instance, long p) {
            if (Topic.seq(instance) <= appliedCount[Topic.account(instance)] || acceptedPapers[instance] != NONE) {
                return false;
            }
            return countTellersOf(Topic.at(READY, instance), p) >= 2 * mostFaulty + 1
                    || countTellersOf(Topic.at(DONE, instance), p) >= mostFaulty + 1;
        }

        private int countTellersOf(int topic, long p) {
            int count = 0;
            for (int from = 0; from < size; from++) {
                if (told[topic * MOST_NODES + from] == p) {
                    count++;
                }
            }
            return count;
        }

        /** How many papers were applied, or CRASHED. */
        private int applyWhatIsValid() {
            for (int count = 0; count < INSTANCES; count++) {
                int account = leastPayer();
                if (account == NONE) {
                    return count;
                }
                int instance = account * TRANSFERS + appliedCount[account];
                if (!write(Topic.at(DONE, instance), acceptedPapers[instance])) {
                    return CRASHED;
                }
                pay(account, acceptedPapers[instance]);
                acceptedPapers[instance] = NONE;
            }
            return INSTANCES;
        }

        /** The least account whose next instance has an accepted paper that is valid. */
        private int leastPayer() {
            for (int c = 0; c < size; c++) {
                if (appliedCount[c] < TRANSFERS && isValid(c, acceptedPapers[c * TRANSFERS + appliedCount[c]])) {
                    return c;
                }
            }
            return NONE;
        }

        private boolean isValid(int account, long p) {
            if (p == NONE || balances[account] < Paper.amount(p)) {
                return false;
            }
            for (int c = 0; c < size; c++) {
                if (appliedCount[c] < Paper.need(p, c)) {
                    return false;
                }
            }
            return true;
        }

        private void pay(int account, long p) {
            appliedCount[account]++;
            balances[account] -= Paper.amount(p);
            balances[Paper.payee(p)] += Paper.amount(p);
        }

        private void freeWhatIsMarked() {
            long mark = said[MARK_TOPIC];
            if (mark == NONE || countTellersOf(MARK_TOPIC, mark) < 2 * mostFaulty + 1) {
                return;
            }
            for (int c = 0; c < size; c++) {
                int marked = Paper.digit(mark, c);
                for (int s = freedCount[c] + 1; s <= marked; s++) {
                    forget(c * TRANSFERS + s - 1);
                }
                freedCount[c] = Math.max(freedCount[c], marked);
            }
        }

        /** What it has said as DONE stays: by it the nodes that were down catch up. */
        private void forget(int instance) {
            for (int kind = INIT; kind <= READY; kind++) {
                said[Topic.at(kind, instance)] = NONE;
            }
            for (int kind = ECHO; kind <= DONE; kind++) {
                for (int from = 0; from < size; from++) {
                    told[Topic.at(kind, instance) * MOST_NODES + from] = NONE;
                }
            }
        }

        private long spendable() {
            long left = balances[me];
            for (int s = appliedCount[me] + 1; s <= submissions; s++) {
                left -= Paper.amount(said[Topic.of(INIT, me, s)]);
            }
            return left;
        }

        /** As the digits of a mark: for every account the last transfer applied here that paid this node. */
        private long needs() {
            long needs = 0;
            for (int c = 0; c < size; c++) {
                needs |= (long) lastPaymentBy(c) << (3 * c);
            }
            return needs;
        }

        private int lastPaymentBy(int account) {
            for (int t = appliedCount[account]; t > 0; t--) {
                if (Paper.payee(said[Topic.of(DONE, account, t)]) == me) {
                    return t;
                }
            }
            return 0;
        }

        /** False when the node has crashed by its fuse instead of writing. */
        private boolean write(int topic, long p) {
            if (fuseLeft == 1) {
                goDown();
                return false;
            }
            fuseLeft = Math.max(0, fuseLeft - 1);
            said[topic] = p;
            return true;
        }
    }
}
