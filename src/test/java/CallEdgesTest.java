/** Promises 1 to 11, which change something: each sentence with its boundary, from both sides. */
public final class CallEdgesTest {
    private static final int REFUSED = EchoPayments.REFUSED;
    private static final int ABSENT = EchoPayments.ABSENT;
    private static final int CRASHED = EchoPayments.CRASHED;
    private static final int FULL = EchoPayments.FULL;
    private static final int POOR = EchoPayments.POOR;
    private static final int LEAST = Integer.MIN_VALUE;
    private static final int GREATEST = Integer.MAX_VALUE;
    private static final int[] FAULTY = {1, 1, 1, 2};

    private final Due due = new Due();

    public static void main(String[] args) {
        CallEdgesTest test = new CallEdgesTest();
        test.nodesAreFourToSeven();
        test.startIsZeroToThousand();
        for (int n = 4; n <= 7; n++) {
            test.submitByANodeToAnother(n);
            test.corruptUpToF(n);
            test.forgeFromFaultyToUp(n);
            test.carryFromCorrectToUp(n);
            test.carryOfWhatWasSent(n);
            test.crashAndRestart(n);
            test.fuseOfANode(n);
            test.markOfANode(n);
        }
        test.submitOfAnAmount();
        test.submitFiveTimes();
        test.submitWithWhatIsLeft();
        test.submitWithWhatIsAppliedHere();
        test.submitInTheMidstOfACrash();
        test.answersOfSubmitInOrder();
        test.needIsTheGreatest();
        test.needIsOfWhatIsAppliedHere();
        test.needIsNotOfItsOwnAccount();
        test.corruptLeavesWhatWasHeard();
        test.headOfForge();
        test.pumpUpToEight();
        test.pumpInOrder();
        test.pumpOfTheLastOfAll();
        test.pumpLooksEachTimeAnew();
        test.pumpGoesOnAfterACrash();
        test.crashTakesTheFuse();
        test.fuseUpToNine();
        test.markCountsWhatIsApplied();
        test.theLastOf512Calls();
        test.due.end();
    }

    /** Promise 1: "n is nodes, but 4 if that is less, and 7 if it is more" */
    private void nodesAreFourToSeven() {
        due.part("promise 1, nodes");
        int[] given = {LEAST, LEAST + 1, -7, -1, 0, 1, 3, 4, 5, 6, 7, 8, 9, 1 << 16, GREATEST - 1, GREATEST};
        for (int nodes : given) {
            int n = nodes < 4 ? 4 : nodes > 7 ? 7 : nodes;
            Counted x = new Counted(nodes, 30);
            for (int i = 0; i < 9; i++) {
                due.is(nodes + " nodes: state " + i, i < n ? 0 : -1, x.state(i));
                due.is(nodes + " nodes: balance of " + i, i < n ? 30 : -1, x.balance(0, i));
                due.is(nodes + " nodes: balance at " + i, i < n ? 30 : -1, x.balance(i, n - 1));
            }
            x.submit(n - 1, 0, 30);
            due.is(nodes + " nodes: pending", n, x.pending());
            due.is(nodes + " nodes: pump", n, x.pump(n));
            due.is(nodes + " nodes: ECHO of all to all", n * n, x.pending());
            for (int i = 0; i < 3; i++) {
                due.is(nodes + " nodes: corrupt " + i, i < FAULTY[n - 4], x.corrupt(i));
            }
        }
    }

    /** Promise 1: "every account has start at first, but 0 if that is less, and 1000 if it is more" */
    private void startIsZeroToThousand() {
        due.part("promise 1, start");
        for (int start : new int[] {LEAST, LEAST + 1, -1000, -1, 0, 1, 2, 999, 1000, 1001, 1023, 65536, GREATEST}) {
            int has = start < 0 ? 0 : start > 1000 ? 1000 : start;
            for (int n = 4; n <= 7; n++) {
                Counted x = new Counted(n, start);
                for (int i = 0; i < n; i++) {
                    for (int a = 0; a < n; a++) {
                        due.is("start " + start, has, x.balance(i, a));
                    }
                }
                due.is("one more than start " + start, POOR, x.submit(0, 1, has + 1));
                due.is("all of start " + start, has == 0 ? REFUSED : 1, x.submit(0, 1, has));
            }
        }
    }

    /** Promise 2: "REFUSED unless node is a correct node that is up, payee is a node other than it" */
    private void submitByANodeToAnother(int n) {
        due.part("promise 2, " + n + " nodes");
        for (int i : new int[] {LEAST, -n, -1, 0, 1, n - 1, n, n + 1, 8, 8 + 1, GREATEST}) {
            boolean isNode = i >= 0 && i < n;
            Counted x = new Counted(n, 100);
            due.is("by " + i, isNode ? 1 : REFUSED, x.submit(i, i == 2 ? 3 : 2, 1));
            due.is("to " + i, isNode ? 1 : REFUSED, x.submit(2, i, 1));
            due.is("pending", isNode ? 2 * n : 0, x.pending());
        }
        for (int i = 0; i < n; i++) {
            Counted x = new Counted(n, 100);
            due.is(i + " to itself", REFUSED, x.submit(i, i, 1));
            due.is("to the one before", i > 0 ? 1 : REFUSED, x.submit(i, i - 1, 1));
            due.is("to the one after", i + 1 == n ? REFUSED : i > 0 ? 2 : 1, x.submit(i, i + 1, 1));
            x.crash(i);
            due.is("down", REFUSED, x.submit(i, (i + 1) % n, 1));
            due.is("to one that is down", 1, x.submit((i + 1) % n, i, 1));
            x.corrupt(i);
            due.is("faulty", REFUSED, x.submit(i, (i + 1) % n, 1));
            due.is("to one that is faulty", 2, x.submit((i + 1) % n, i, 1));
        }
    }

    /** Promise 2: "and amount is 1 .. 1023" */
    private void submitOfAnAmount() {
        due.part("promise 2, amount");
        for (int amount : new int[] {LEAST, LEAST + 1, -1023, -1, 0, 1, 2, 1022, 1023, 1024, 1025, 2048, 65537, GREATEST}) {
            Counted x = new Counted(4, 1000);
            x.submit(1, 0, 100);
            Net.settle(x);
            boolean isAmount = amount >= 1 && amount <= 1023;
            due.is("amount " + amount, isAmount ? 1 : REFUSED, x.submit(0, 2, amount));
            due.is("paper of " + amount, isAmount ? Net.paper(2, amount) + Net.need(1, 1) : -1, x.sent(0, Net.INIT, 0, 1));
            due.is("pending", isAmount ? 4 : 0, x.pending());
        }
    }

    /** Promise 2: "else FULL when it has submitted 5", whether they are applied, freed or neither. */
    private void submitFiveTimes() {
        due.part("promise 2, five");
        Counted x = new Counted(4, 100);
        for (int s = 1; s <= 5; s++) {
            due.is("submit", s, x.submit(0, 1, s));
            due.is("the paper", Net.paper(1, s), x.sent(0, Net.INIT, 0, s));
        }
        due.is("the sixth", FULL, x.submit(0, 1, 1));
        due.is("the sixth to another", FULL, x.submit(0, 3, 85));
        due.is("full before poor", FULL, x.submit(0, 1, 1023));
        due.is("refused before full", REFUSED, x.submit(0, 1, 1024));
        due.is("refused before full", REFUSED, x.submit(0, 4, 1));
        due.is("another node", 1, x.submit(1, 0, 1));
        due.is("pending", 24, x.pending());
        Net.settle(x);
        due.is("applied", FULL, x.submit(0, 1, 1));
        x.crash(0);
        x.restart(0);
        due.is("after a crash", FULL, x.submit(0, 1, 1));
        Net.markAll(x, 4);
        Net.settle(x);
        due.is("all are freed", 5, x.freed(0, 0));
        due.is("freed", FULL, x.submit(0, 1, 1));
        due.is("another node", 2, x.submit(1, 0, 1));
    }

    /** Promise 2: "else POOR when the balance of its account at it, less the amounts ..., is less than amount" */
    private void submitWithWhatIsLeft() {
        due.part("promise 2, what is left");
        Counted x = new Counted(4, 100);
        due.is("101 of 100", POOR, x.submit(0, 1, 101));
        due.is("1023 of 100", POOR, x.submit(0, 1, 1023));
        due.is("40 of 100", 1, x.submit(0, 1, 40));
        due.is("61 of 60", POOR, x.submit(0, 1, 61));
        due.is("59 of 60", 2, x.submit(0, 1, 59));
        due.is("2 of 1", POOR, x.submit(0, 1, 2));
        due.is("1 of 1", 3, x.submit(0, 1, 1));
        due.is("1 of 0", POOR, x.submit(0, 1, 1));
        due.is("balance is what is applied", 100, x.balance(0, 0));
        Net.settle(x);
        due.is("1 of 0, when all is applied", POOR, x.submit(0, 1, 1));
        due.is("balance", 0, x.balance(0, 0));
        due.is("201 of 200", POOR, x.submit(1, 0, 201));
        due.is("200 of 200", 1, x.submit(1, 0, 200));
        due.is("nothing is income before it is applied", POOR, x.submit(0, 1, 1));
        Net.settle(x);
        due.is("201 of 200", POOR, x.submit(0, 1, 201));
        due.is("200 of 200", 4, x.submit(0, 1, 200));
        Counted none = new Counted(4, 0);
        due.is("1 of nothing", POOR, none.submit(0, 1, 1));
        due.is("0 of nothing", REFUSED, none.submit(0, 1, 0));
        Counted one = new Counted(4, 1);
        due.is("2 of 1", POOR, one.submit(0, 1, 2));
        due.is("1 of 1", 1, one.submit(0, 1, 1));
    }

    /** What is applied elsewhere, but not at the node itself, still counts as submitted; so do incomes. */
    private void submitWithWhatIsAppliedHere() {
        due.part("promise 2, applied here");
        Counted x = new Counted(4, 100);
        x.submit(0, 1, 30);
        x.submit(0, 1, 30);
        x.crash(0);
        x.submit(2, 0, 7);
        Net.settle(x);
        due.is("applied at 1", 2, x.applied(1, 0));
        x.restart(0);
        due.is("applied at 0", 0, x.applied(0, 0));
        due.is("41 of 100 - 60", POOR, x.submit(0, 1, 41));
        x.carry(1, 0, Net.DONE, 0, 1);
        due.is("the first is applied at 0", 1, x.carry(2, 0, Net.DONE, 0, 1));
        due.is("41 of 70 - 30", POOR, x.submit(0, 1, 41));
        x.carry(1, 0, Net.DONE, 2, 1);
        due.is("the income is applied at 0", 1, x.carry(2, 0, Net.DONE, 2, 1));
        due.is("48 of 77 - 30", POOR, x.submit(0, 1, 48));
        due.is("47 of 77 - 30", 3, x.submit(0, 1, 47));
        due.is("1 of 77 - 77", POOR, x.submit(0, 1, 1));
    }

    /** Promise 2: "else CRASHED when its fuse comes to 0 by this writing (nothing is submitted then)" */
    private void submitInTheMidstOfACrash() {
        due.part("promise 2, crash");
        Counted x = new Counted(4, 100);
        x.fuse(0, 2);
        due.is("fuse 2", 1, x.submit(0, 1, 60));
        due.is("poor does not burn it", POOR, x.submit(0, 1, 41));
        due.is("refused does not burn it", REFUSED, x.submit(0, 1, 0));
        due.is("fuse 1", CRASHED, x.submit(0, 1, 40));
        due.is("down", REFUSED, x.submit(0, 1, 40));
        due.is("one is submitted", -1, x.sent(0, Net.INIT, 0, 2));
        x.restart(0);
        due.is("the 40 are still there, 41 are not", POOR, x.submit(0, 1, 41));
        due.is("it is the second", 2, x.submit(0, 1, 40));
        for (int s = 1; s <= 5; s++) {
            due.is("five of another", s, x.submit(1, 0, 1));
        }
        x.fuse(1, 1);
        due.is("full does not burn the fuse", FULL, x.submit(1, 0, 1));
        due.is("it is whole", CRASHED, x.mark(1));
    }

    private void answersOfSubmitInOrder() {
        due.part("promise 2, order");
        Counted x = new Counted(4, 5);
        for (int s = 1; s <= 5; s++) {
            x.submit(0, 1, 1);
        }
        x.fuse(0, 1);
        due.is("refused, full, poor, would crash", REFUSED, x.submit(0, 0, 1));
        due.is("full, poor, would crash", FULL, x.submit(0, 1, 1));
        x.fuse(1, 1);
        due.is("refused, poor, would crash", REFUSED, x.submit(1, 0, 1024));
        due.is("poor, would crash", POOR, x.submit(1, 0, 6));
        due.is("would crash", CRASHED, x.submit(1, 0, 5));
        due.is("refused, though poor, when it is down", REFUSED, x.submit(1, 0, 6));
    }

    /** Promise 2: "the greatest t such that it has applied at (c, t) a paper whose payee it is (0 if there is none)" */
    private void needIsTheGreatest() {
        due.part("promise 2, NEED");
        for (int paying = 0; paying < 32; paying++) {
            Counted x = new Counted(4, 100);
            int greatest = 0;
            for (int t = 1; t <= 5; t++) {
                boolean pays = (paying >> t - 1 & 1) == 1;
                x.submit(3, pays ? 1 : 0, 1);
                greatest = pays ? t : greatest;
            }
            Net.settle(x);
            x.submit(1, 0, 1);
            due.is("paid by " + Integer.toBinaryString(paying), Net.paper(0, 1) + Net.need(3, greatest),
                    x.sent(1, Net.INIT, 1, 1));
            x.submit(2, 0, 1);
            due.is("never paid", Net.paper(0, 1), x.sent(2, Net.INIT, 2, 1));
        }
    }

    private void needIsOfWhatIsAppliedHere() {
        due.part("promise 2, NEED of what is applied here");
        Counted x = new Counted(4, 100);
        x.crash(0);
        for (int s = 1; s <= 3; s++) {
            x.submit(1, 0, 1);
        }
        Net.settle(x);
        x.restart(0);
        due.is("applied elsewhere", 1, x.submit(0, 2, 1));
        due.is("needs nothing", Net.paper(2, 1), x.sent(0, Net.INIT, 0, 1));
        x.carry(1, 0, Net.DONE, 1, 2);
        x.carry(2, 0, Net.DONE, 1, 2);
        due.is("accepted", Net.paper(0, 1), x.accepted(0, 1, 2));
        x.submit(0, 2, 1);
        due.is("accepted is not applied", Net.paper(2, 1), x.sent(0, Net.INIT, 0, 2));
        x.carry(1, 0, Net.DONE, 1, 1);
        due.is("two at once", 2, x.carry(2, 0, Net.DONE, 1, 1));
        x.submit(0, 2, 1);
        due.is("two", Net.paper(2, 1) + Net.need(1, 2), x.sent(0, Net.INIT, 0, 3));
        due.is("those before stay", Net.paper(2, 1), x.sent(0, Net.INIT, 0, 2));
        x.crash(0);
        x.restart(0);
        x.submit(0, 2, 1);
        due.is("after a crash", Net.paper(2, 1) + Net.need(1, 2), x.sent(0, Net.INIT, 0, 4));
        Net.settle(x);
        Net.markAll(x, 4);
        Net.settle(x);
        due.is("freed", 3, x.freed(0, 1));
        x.submit(0, 2, 1);
        due.is("freed or not", Net.paper(2, 1) + Net.need(1, 3), x.sent(0, Net.INIT, 0, 5));
    }

    /** Promise 2: "NEED(c) for every account c other than its own" */
    private void needIsNotOfItsOwnAccount() {
        due.part("promise 2, NEED of all");
        Counted x = new Counted(7, 100);
        for (int i = 0; i < 6; i++) {
            x.submit(i, 6, 1);
        }
        x.submit(6, 0, 1);
        Net.settle(x);
        x.submit(6, 0, 1);
        long needs = 0;
        for (int i = 0; i < 6; i++) {
            needs += Net.need(i, 1);
        }
        due.is("all but its own", Net.paper(0, 1) + needs, x.sent(6, Net.INIT, 6, 2));
        x.submit(0, 1, 1);
        due.is("of 6 alone", Net.paper(1, 1) + Net.need(6, 1), x.sent(0, Net.INIT, 0, 2));
    }

    /** Promise 3: "false, changing nothing, when it is not a correct node or f nodes are faulty" */
    private void corruptUpToF(int n) {
        due.part("promise 3, " + n + " nodes");
        int f = FAULTY[n - 4];
        for (int first = 0; first < n; first++) {
            Counted x = new Counted(n, 100);
            for (int wrong : new int[] {LEAST, -n, -1, n, n + 1, 8, GREATEST}) {
                due.is("corrupt " + wrong, false, x.corrupt(wrong));
            }
            x.crash(first);
            for (int i = 0; i < n; i++) {
                int node = (first + i) % n;
                due.is("corrupt " + (i + 1) + " of " + f, i < f, x.corrupt(node));
                due.is("state", i < f ? 2 : 0, x.state(node));
                due.is("again", false, x.corrupt(node));
            }
            due.is("not restarted", false, x.restart(first));
            due.is("for ever", 2, x.state(first));
        }
    }

    /** Promise 3: "What others heard from it stays heard.", and counts. */
    private void corruptLeavesWhatWasHeard() {
        due.part("promise 3, heard");
        Counted x = new Counted(4, 100);
        x.submit(0, 1, 10);
        x.pump(4);
        x.mark(3);
        x.carry(3, 1, Net.MARK, 0, 0);
        x.carry(3, 1, Net.ECHO, 0, 1);
        x.carry(0, 1, Net.ECHO, 0, 1);
        x.corrupt(3);
        due.is("ECHO", 2, x.heard(1, Net.ECHO, 0, 1));
        due.is("mark", 1, x.heard(1, Net.MARK, 0, 0));
        due.is("the same ECHO", EchoPayments.REPEATED, x.forge(3, 1, Net.head(Net.ECHO, 0, 1), Net.paper(1, 10)));
        due.is("another ECHO", EchoPayments.REPEATED, x.forge(3, 1, Net.head(Net.ECHO, 0, 1), Net.paper(1, 11)));
        due.is("the same mark", EchoPayments.REPEATED, x.forge(3, 1, Net.head(Net.MARK, 0, 0), 0));
        due.is("the third ECHO", 0, x.carry(1, 1, Net.ECHO, 0, 1));
        due.is("READY", Net.paper(1, 10), x.sent(1, Net.READY, 0, 1));
        due.is("it has sent nothing itself", -1, x.sent(3, Net.ECHO, 0, 1));
        due.is("nor can it be carried", REFUSED, x.carry(3, 2, Net.ECHO, 0, 1));
    }

    /** Promise 4: "REFUSED unless from is a faulty node and to a correct node that is up" */
    private void forgeFromFaultyToUp(int n) {
        due.part("promise 4, " + n + " nodes");
        int head = Net.head(Net.MARK, 0, 0);
        for (int i : new int[] {LEAST, -n, -1, 0, 1, n - 2, n - 1, n, n + 1, 8, GREATEST}) {
            Counted x = new Counted(n, 100);
            due.is("none is faulty, from " + i, REFUSED, x.forge(i, 1, head, 0));
            x.corrupt(n - 1);
            due.is("from " + i, i == n - 1 ? 0 : REFUSED, x.forge(i, 1, head, 0));
            due.is("to " + i, i < 0 || i >= n - 1 ? REFUSED : 0, x.forge(n - 1, i, head, 1));
        }
        Counted x = new Counted(n, 100);
        x.corrupt(0);
        due.is("to itself", REFUSED, x.forge(0, 0, head, 0));
        x.crash(1);
        due.is("from one that is down", REFUSED, x.forge(1, 2, head, 0));
        due.is("to one that is down", REFUSED, x.forge(0, 1, head, 0));
        due.is("what is malformed, too", REFUSED, x.forge(0, 1, 7, -1));
        due.is("not heard", 0, x.heard(1, Net.MARK, 0, 0));
        x.restart(1);
        due.is("to one that is up again", 0, x.forge(0, 1, head, 0));
        due.is("heard", 1, x.heard(1, Net.MARK, 0, 0));
        due.is("what is malformed", EchoPayments.MALFORMED, x.forge(0, 1, 7, -1));
    }

    /** Promise 4: "the kind head & 7 about (head >> 3 & 7, head >> 6)" */
    private void headOfForge() {
        due.part("promise 4, head");
        for (int kind = Net.ECHO; kind <= Net.DONE; kind++) {
            for (int account = 0; account < 7; account++) {
                for (int seq = 1; seq <= 5; seq++) {
                    Counted x = new Counted(7, 100);
                    x.corrupt(5);
                    due.is("taken", 0, x.forge(5, 6, kind | account << 3 | seq << 6, Net.paper(account == 0 ? 1 : 0, 1)));
                    due.is("heard", 1, x.heard(6, kind, account, seq));
                    due.is("of one", 1, x.kept(6));
                }
            }
        }
        Counted x = new Counted(7, 100);
        x.corrupt(5);
        for (int head : new int[] {LEAST, LEAST + 4, LEAST + 64, -1, -4, -64, 64 * 8 + 4, 1 << 30, GREATEST - 3, GREATEST}) {
            due.is("head " + head, EchoPayments.MALFORMED, x.forge(5, 6, head, 9));
            due.is("head " + head, EchoPayments.MALFORMED, x.forge(5, 6, head, 0));
        }
        due.is("nothing is kept", 0, x.kept(6));
        due.is("no mark is heard", 0, x.heard(6, Net.MARK, 0, 0));
    }

    /** Promise 5: "REFUSED unless from is a correct node and to a correct node that is up" */
    private void carryFromCorrectToUp(int n) {
        due.part("promise 5, " + n + " nodes");
        for (int i : new int[] {LEAST, -n, -1, 0, 1, n - 1, n, n + 1, 8, GREATEST}) {
            boolean isNode = i >= 0 && i < n;
            Counted x = new Counted(n, 100);
            Net.markAll(x, n);
            due.is("from " + i, isNode ? 0 : REFUSED, x.carry(i, 2, Net.MARK, 0, 0));
            due.is("to " + i, isNode ? 0 : REFUSED, x.carry(2, i, Net.MARK, 0, 0));
            due.is("from " + i + ", absent", isNode ? ABSENT : REFUSED, x.carry(i, 2, Net.INIT, 0, 1));
            due.is("to " + i + ", absent", isNode ? ABSENT : REFUSED, x.carry(2, i, 9, 9, 9));
        }
        Counted x = new Counted(n, 100);
        Net.markAll(x, n);
        x.crash(1);
        due.is("to one that is down", REFUSED, x.carry(0, 1, Net.MARK, 0, 0));
        due.is("from one that is down", 0, x.carry(1, 0, Net.MARK, 0, 0));
        due.is("from one that is down to itself", REFUSED, x.carry(1, 1, Net.MARK, 0, 0));
        x.corrupt(1);
        due.is("to one that is faulty", REFUSED, x.carry(0, 1, Net.MARK, 0, 0));
        due.is("from one that is faulty", REFUSED, x.carry(1, 2, Net.MARK, 0, 0));
        due.is("to itself", 0, x.carry(0, 0, Net.MARK, 0, 0));
    }

    /** Promise 5: "ABSENT when from has not sent a message of this kind ..., also when there is no such kind or instance" */
    private void carryOfWhatWasSent(int n) {
        due.part("promise 5, absent, " + n + " nodes");
        int last = n - 1;
        Counted x = new Counted(n, 1000);
        for (int s = 1; s <= 5; s++) {
            x.submit(last, 0, s);
        }
        x.mark(last);
        for (int seq : new int[] {LEAST, -1, 0, 1, 2, 3, 4, 5, 6, 7, GREATEST}) {
            due.is("seq " + seq, seq >= 1 && seq <= 5 ? 0 : ABSENT, x.carry(last, 1, Net.INIT, last, seq));
        }
        for (int account : new int[] {LEAST, -1, 0, last - 1, last, n, 7, 8, GREATEST}) {
            due.is("account " + account, account == last ? 0 : ABSENT, x.carry(last, 2, Net.INIT, account, 1));
        }
        for (int kind : new int[] {LEAST, -1, 0, 1, 2, 3, 4, 5, 6, 7, 8, GREATEST}) {
            due.is("kind " + kind, kind == 0 ? 0 : ABSENT, x.carry(last, 0, kind, last, 1));
            due.is("kind " + kind + " about (0, 0)", kind == 4 ? 0 : ABSENT, x.carry(last, 0, kind, 0, 0));
        }
        for (int i : new int[] {LEAST, -1, 1, 5, GREATEST}) {
            due.is("a mark about (" + i + ", 0)", ABSENT, x.carry(last, 1, Net.MARK, i, 0));
            due.is("a mark about (0, " + i + ")", ABSENT, x.carry(last, 1, Net.MARK, 0, i));
        }
        due.is("one that made no mark", ABSENT, x.carry(0, 1, Net.MARK, 0, 0));
        due.is("an ECHO that was written", 0, x.carry(1, 0, Net.ECHO, last, 5));
        due.is("one that was not", ABSENT, x.carry(last, 0, Net.ECHO, last, 5));
        due.is("INIT of one that has its ECHO alone", ABSENT, x.carry(1, 0, Net.INIT, last, 5));
    }

    /** Promise 6: "fewer when none is pending any more. Answers how many were received; REFUSED when k is not 1 .. 8." */
    private void pumpUpToEight() {
        due.part("promise 6, k");
        for (int k : new int[] {LEAST, -8, -1, 0, 1, 2, 3, 4, 5, 6, 7, 8, 9, 10, 16, 257, GREATEST}) {
            boolean isRight = k >= 1 && k <= 8;
            for (int marks = 0; marks <= 3; marks++) {
                Counted x = new Counted(4, 100);
                for (int i = 0; i < marks; i++) {
                    x.mark(i);
                }
                int pending = 4 * marks;
                int received = Math.min(k, pending);
                due.is("pump " + k + " of " + pending, isRight ? received : REFUSED, x.pump(k));
                due.is("left", isRight ? pending - received : pending, x.pending());
            }
        }
        Counted x = new Counted(4, 100);
        x.crash(3);
        for (int i = 0; i < 3; i++) {
            x.mark(i);
        }
        due.is("8 of 9", 8, x.pump(8));
        due.is("1 of 1", 1, x.pump(8));
        due.is("none", 0, x.pump(8));
        due.is("none", 0, x.pump(1));
    }

    /** Promise 6: "in the order of their kinds, then of accounts, then of seq, then of senders, then of receivers" */
    private void pumpInOrder() {
        due.part("promise 6, order");
        Counted x = new Counted(4, 100);
        x.mark(0);
        x.submit(1, 0, 1);
        x.carry(1, 3, Net.INIT, 1, 1);
        x.carry(1, 2, Net.INIT, 1, 1);
        x.submit(0, 1, 1);
        x.submit(0, 1, 2);
        int[][] inits = {{0, 1, 0}, {0, 1, 1}, {0, 1, 2}, {0, 1, 3}, {0, 2, 0}, {0, 2, 1}, {0, 2, 2}, {0, 2, 3},
            {1, 1, 0}, {1, 1, 1}};
        for (int[] one : inits) {
            due.is("not yet", -1, x.sent(one[2], Net.ECHO, one[0], one[1]));
            due.is("pump", 1, x.pump(1));
            due.isTrue("INIT of " + one[0] + ", " + one[1] + " to " + one[2], x.sent(one[2], Net.ECHO, one[0], one[1]) > 0);
        }
        int[][] about = {{0, 1}, {0, 2}, {1, 1}};
        for (int[] one : about) {
            for (int from = 0; from < 4; from++) {
                for (int to = 0; to < 4; to++) {
                    due.is("not yet", from, x.heard(to, Net.ECHO, one[0], one[1]));
                    due.is("pump", 1, x.pump(1));
                    due.is("heard", from + 1, x.heard(to, Net.ECHO, one[0], one[1]));
                }
            }
            due.is("READY waits", 0, x.heard(0, Net.READY, 0, 1));
        }
        for (int i = 0; i < 12; i++) {
            x.pump(8);
        }
        due.is("DONE comes before the marks", 4, x.heard(3, Net.DONE, 1, 1));
        for (int to = 0; to < 4; to++) {
            due.is("not yet", 0, x.heard(to, Net.MARK, 0, 0));
            due.is("pump", 1, x.pump(1));
            due.is("mark", 1, x.heard(to, Net.MARK, 0, 0));
        }
        due.is("none", 0, x.pump(1));
    }

    /** The last message of all that there can be: of the last node to the last one, about the last instance. */
    private void pumpOfTheLastOfAll() {
        due.part("promise 6, the last");
        Counted x = new Counted(7, 100);
        for (int s = 1; s <= 5; s++) {
            x.submit(6, 0, 1);
        }
        for (int to = 0; to < 7; to++) {
            for (int s = 1; s <= 5; s++) {
                if (to < 6 || s < 5) {
                    x.carry(6, to, Net.INIT, 6, s);
                }
            }
        }
        for (int i = 0; i < 6; i++) {
            x.crash(i);
        }
        due.is("INIT and four ECHO of its own, five of each of the others", 1 + 4 + 30, x.pending());
        due.is("the last INIT", 1, x.pump(1));
        due.is("its ECHO", Net.paper(0, 1), x.sent(6, Net.ECHO, 6, 5));
        due.is("ECHO of all and its own READY", 35 + 5, Net.settle(x));
        due.is("heard", 7, x.heard(6, Net.ECHO, 6, 5));
        due.is("READY", Net.paper(0, 1), x.sent(6, Net.READY, 6, 5));
    }

    /** Promise 6: "each time the first one that is pending then" */
    private void pumpLooksEachTimeAnew() {
        due.part("promise 6, anew");
        Counted x = new Counted(4, 100);
        x.submit(0, 1, 1);
        due.is("four INIT, and four ECHO that come of them", 8, x.pump(8));
        for (int to = 0; to < 4; to++) {
            due.is("ECHO at " + to, 1, x.heard(to, Net.ECHO, 0, 1));
        }
        Counted z = new Counted(4, 50);
        z.crash(3);
        z.submit(1, 0, 50);
        Net.settle(z);
        z.submit(0, 2, 100);
        Net.settle(z);
        Net.markAll(z, 3);
        Net.settle(z);
        z.restart(3);
        due.is("three DONE of 0, two of 1, and one that comes of them", 6, z.pump(6));
        due.is("all about 0, its own too", 4, z.heard(3, Net.DONE, 0, 1));
        due.is("two about 1", 2, z.heard(3, Net.DONE, 1, 1));
    }

    /** Promise 6: "Answers how many were received", also when the receiver crashed by that. */
    private void pumpGoesOnAfterACrash() {
        due.part("promise 6, crash");
        Counted x = new Counted(4, 100);
        x.submit(0, 1, 1);
        x.fuse(0, 1);
        x.fuse(2, 1);
        due.is("four INIT, of which two crash", 4, x.pump(4));
        for (int i = 0; i < 4; i++) {
            due.is("state", i % 2 == 0 ? 1 : 0, x.state(i));
            due.is("ECHO", i % 2 == 0 ? -1 : Net.paper(1, 1), x.sent(i, Net.ECHO, 0, 1));
        }
        due.is("two ECHO to two nodes", 4, x.pump(8));
        Counted z = new Counted(4, 100);
        z.submit(0, 1, 1);
        for (int i = 0; i < 4; i++) {
            z.fuse(i, 1);
        }
        due.is("all crash", 4, z.pump(8));
        due.is("none is left", 0, z.pump(8));
        z.restart(3);
        due.is("it is sent still", 1, z.pump(1));
        due.is("without a fuse", Net.paper(1, 1), z.sent(3, Net.ECHO, 0, 1));
    }

    /** Promises 8 and 9: "Otherwise false, and nothing changes." */
    private void crashAndRestart(int n) {
        due.part("promises 8 and 9, " + n + " nodes");
        Counted x = new Counted(n, 100);
        for (int wrong : new int[] {LEAST, -n, -1, n, n + 1, 8, GREATEST}) {
            due.is("crash " + wrong, false, x.crash(wrong));
            due.is("restart " + wrong, false, x.restart(wrong));
        }
        for (int i = 0; i < n; i++) {
            due.is("restart one that is up", false, x.restart(i));
            due.is("state", 0, x.state(i));
            due.is("crash", true, x.crash(i));
            due.is("state", 1, x.state(i));
            due.is("crash one that is down", false, x.crash(i));
            due.is("state", 1, x.state(i));
        }
        for (int i = 0; i < n; i++) {
            due.is("restart", true, x.restart(i));
            due.is("state", 0, x.state(i));
            due.is("restart again", false, x.restart(i));
        }
        x.corrupt(n - 1);
        due.is("crash a faulty one", false, x.crash(n - 1));
        due.is("restart a faulty one", false, x.restart(n - 1));
        due.is("state", 2, x.state(n - 1));
    }

    /** Promise 8: "its fuse becomes 0" */
    private void crashTakesTheFuse() {
        due.part("promise 8, fuse");
        for (int fuse = 0; fuse <= 9; fuse++) {
            Counted x = new Counted(4, 100);
            x.fuse(1, fuse);
            x.crash(1);
            x.restart(1);
            for (int i = 0; i < 12; i++) {
                due.is("mark " + i + " after fuse " + fuse, 0, x.mark(1));
            }
        }
    }

    /** Promise 10: "The fuse of a correct node that is up becomes k (0 .. 9; 0: it has none): true. Otherwise false" */
    private void fuseOfANode(int n) {
        due.part("promise 10, " + n + " nodes");
        for (int i : new int[] {LEAST, -n, -1, 0, n - 1, n, n + 1, 8, GREATEST}) {
            due.is("fuse of " + i, i >= 0 && i < n, new Counted(n, 100).fuse(i, 1));
        }
        Counted x = new Counted(n, 100);
        x.crash(0);
        due.is("down", false, x.fuse(0, 1));
        due.is("down, none", false, x.fuse(0, 0));
        x.restart(0);
        due.is("it was not set", 0, x.mark(0));
        due.is("up again", true, x.fuse(0, 1));
        due.is("set", CRASHED, x.mark(0));
        x.corrupt(1);
        due.is("faulty", false, x.fuse(1, 1));
    }

    private void fuseUpToNine() {
        due.part("promise 10, k");
        for (int k : new int[] {LEAST, LEAST + 1, -9, -1, 0, 1, 8, 9, 10, 11, 16, 256, GREATEST}) {
            Counted x = new Counted(4, 100);
            boolean isRight = k >= 0 && k <= 9;
            x.fuse(0, 4);
            due.is("fuse " + k, isRight, x.fuse(0, k));
            int left = isRight ? k : 4;
            for (int i = 1; i <= 12; i++) {
                int want = i == left ? CRASHED : left > 0 && i > left ? REFUSED : 0;
                due.is("mark " + i + " after fuse " + k, want, x.mark(0));
            }
            due.is("another has none", 0, x.mark(1));
        }
    }

    /** Promise 11: "REFUSED when it is not such a node" */
    private void markOfANode(int n) {
        due.part("promise 11, " + n + " nodes");
        Counted x = new Counted(n, 100);
        for (int i : new int[] {LEAST, -n, -1, 0, n - 1, n, n + 1, 8, GREATEST}) {
            boolean isNode = i >= 0 && i < n;
            due.is("mark " + i, isNode ? 0 : REFUSED, x.mark(i));
        }
        due.is("two marks are sent", 2 * n, x.pending());
        x.crash(1);
        due.is("down", REFUSED, x.mark(1));
        due.is("it has none", -1, x.sent(1, Net.MARK, 0, 0));
        x.restart(1);
        due.is("up", 0, x.mark(1));
        x.corrupt(1);
        due.is("faulty", REFUSED, x.mark(1));
    }

    /** Promise 11: "the MARK with k(c) the number of papers of account c applied at it, for every c" */
    private void markCountsWhatIsApplied() {
        due.part("promise 11, number");
        for (int a = 0; a < 4; a++) {
            Counted x = new Counted(4, 100);
            int one = 1 << 3 * a;
            for (int s = 1; s <= 5; s++) {
                x.submit(a, (a + 1) % 4, 1);
                due.is("what is submitted is not counted", (s - 1) * one, x.mark(a));
                Net.settle(x);
                due.is("before mark()", (s - 1) * one, x.sent(a, Net.MARK, 0, 0));
                due.is("what is applied is", s * one, x.mark(a));
                due.is("it is sent", s * one, x.sent(a, Net.MARK, 0, 0));
                due.is("nothing is freed by that", 0, x.freed(a, a));
            }
            x.fuse(a, 1);
            due.is("crash", CRASHED, x.mark(a));
            due.is("the mark stays", 5 * one, x.sent(a, Net.MARK, 0, 0));
        }
        Counted x = new Counted(7, 100);
        x.fuse(0, 1);
        due.is("crash at the first", CRASHED, x.mark(0));
        due.is("there is none", -1, x.sent(0, Net.MARK, 0, 0));
        due.is("none is pending", 0, x.pending());
        x.submit(6, 1, 1);
        Net.settle(x);
        due.is("account 6", 262144, x.mark(6));
        due.is("nothing applied at 0", REFUSED, x.mark(0));
        x.restart(0);
        due.is("nothing applied at 0", 0, x.mark(0));
    }

    /** "An object is used for at most 512 calls after it has been made": up to there it answers as it should. */
    private void theLastOf512Calls() {
        due.part("512 calls");
        Counted x = new Counted(7, 100);
        x.submit(0, 1, 10);
        for (int i = 0; i < 488; i++) {
            due.is("a look", 0, x.state(i % 7));
        }
        int received = 0;
        for (int i = 0; i < 20; i++) {
            received += x.pump(8);
        }
        due.is("messages", 7 + 3 * 49, received);
        due.is("balance", 110, x.balance(6, 1));
        due.is("submit", 1, x.submit(1, 2, 110));
        due.is("the 512th", Net.paper(2, 110) + Net.need(0, 1), x.sent(1, Net.INIT, 1, 1));
    }
}
