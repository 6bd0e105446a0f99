/** Promises 12 to 19, which only look: each sentence with its boundary, from both sides. */
public final class LookEdgesTest {
    private static final int LEAST = Integer.MIN_VALUE;
    private static final int GREATEST = Integer.MAX_VALUE;

    private final Due due = new Due();

    public static void main(String[] args) {
        LookEdgesTest test = new LookEdgesTest();
        for (int n = 4; n <= 7; n++) {
            test.nodesAndAccounts(n);
            test.sentOfAKindAndInstance(n);
            test.heardOfAKindAndInstance(n);
            test.heardFromZeroToAll(n);
            test.keptFromZeroToAll(n);
            test.stateOfANode(n);
        }
        test.sentOrNot();
        test.heardMarks();
        test.acceptedOfAnInstance();
        test.acceptedUntilApplied();
        test.appliedFromZeroToFive();
        test.balanceFromNothingToAll();
        test.freedFromZeroToFive();
        test.keptByEachAlone();
        test.lookingChangesNothing();
        test.due.end();
    }

    /** Promises 12 to 18: "-1 when it is not a correct node or there is no such account" */
    private void nodesAndAccounts(int n) {
        due.part("promises 12 to 18, " + n + " nodes");
        for (int i : new int[] {LEAST, LEAST + 1, -n, -1, 0, 1, n - 2, n - 1, n, n + 1, 7, 8, GREATEST - 1, GREATEST}) {
            Counted x = new Counted(n, 100);
            boolean isNode = i >= 0 && i < n;
            Net.markAll(x, n);
            due.is("mark sent by " + i, isNode ? 0 : -1, x.sent(i, Net.MARK, 0, 0));
            due.is("heard by " + i, isNode ? 0 : -1, x.heard(i, Net.ECHO, 0, 1));
            due.is("marks heard by " + i, isNode ? 0 : -1, x.heard(i, Net.MARK, 0, 0));
            due.is("applied at " + i, isNode ? 0 : -1, x.applied(i, 0));
            due.is("applied of " + i, isNode ? 0 : -1, x.applied(0, i));
            due.is("balance at " + i, isNode ? 100 : -1, x.balance(i, 0));
            due.is("balance of " + i, isNode ? 100 : -1, x.balance(0, i));
            due.is("freed at " + i, isNode ? 0 : -1, x.freed(i, 0));
            due.is("freed of " + i, isNode ? 0 : -1, x.freed(0, i));
            due.is("kept at " + i, isNode ? 0 : -1, x.kept(i));
            due.is("accepted at " + i, -1, x.accepted(i, 0, 1));
        }
        Counted x = new Counted(n, 100);
        Net.markAll(x, n);
        x.crash(1);
        ofOne(x, 1, 0, 100);
        x.corrupt(1);
        ofOne(x, 1, -1, -1);
        due.is("a faulty node's account elsewhere", 100, x.balance(0, 1));
        due.is("a faulty node's account elsewhere", 0, x.applied(0, 1));
        due.is("a faulty node's account elsewhere", 0, x.freed(0, 1));
    }

    private void ofOne(Counted x, int node, int want, int balance) {
        due.is("mark", want, x.sent(node, Net.MARK, 0, 0));
        due.is("heard", want, x.heard(node, Net.ECHO, 0, 1));
        due.is("marks heard", want, x.heard(node, Net.MARK, 0, 0));
        due.is("applied", want, x.applied(node, 0));
        due.is("balance", balance, x.balance(node, 0));
        due.is("freed", want, x.freed(node, 0));
        due.is("kept", want, x.kept(node));
        due.is("accepted", -1, x.accepted(node, 0, 1));
    }

    /** Promise 12: "(MARK: (0, 0)); -1 when it ... has sent none, also when there is no such kind or instance" */
    private void sentOfAKindAndInstance(int n) {
        due.part("promise 12, " + n + " nodes");
        int last = n - 1;
        Counted x = new Counted(n, 100);
        for (int s = 1; s <= 5; s++) {
            x.submit(last, 0, s);
            x.carry(last, last, Net.INIT, last, s);
        }
        x.mark(last);
        for (int kind = Net.INIT; kind <= Net.ECHO; kind++) {
            for (int seq : new int[] {LEAST, -1, 0, 1, 2, 3, 4, 5, 6, 7, 8, GREATEST}) {
                due.is("kind " + kind + ", seq " + seq, seq >= 1 && seq <= 5 ? Net.paper(0, seq) : -1,
                        x.sent(last, kind, last, seq));
            }
            for (int account : new int[] {LEAST, -1, 0, last - 1, last, n, n + 1, 7, 8, GREATEST}) {
                due.is("kind " + kind + ", account " + account, account == last ? Net.paper(0, 1) : -1,
                        x.sent(last, kind, account, 1));
            }
        }
        for (int kind : new int[] {LEAST, -1, 0, 1, 2, 3, 4, 5, 6, 8, GREATEST}) {
            due.is("kind " + kind, kind == 0 || kind == 1 ? Net.paper(0, 5) : -1, x.sent(last, kind, last, 5));
            due.is("kind " + kind + " about (0, 0)", kind == 4 ? 0 : -1, x.sent(last, kind, 0, 0));
        }
        for (int i : new int[] {LEAST, -1, 0, 1, 5, GREATEST}) {
            due.is("mark about (" + i + ", 0)", i == 0 ? 0 : -1, x.sent(last, Net.MARK, i, 0));
            due.is("mark about (0, " + i + ")", i == 0 ? 0 : -1, x.sent(last, Net.MARK, 0, i));
        }
    }

    private void sentOrNot() {
        due.part("promise 12");
        Counted x = new Counted(4, 100);
        due.is("no mark", -1, x.sent(0, Net.MARK, 0, 0));
        x.mark(0);
        due.is("the mark 0", 0, x.sent(0, Net.MARK, 0, 0));
        x.submit(0, 1, 1);
        long paper = Net.paper(1, 1);
        due.is("INIT at once", paper, x.sent(0, Net.INIT, 0, 1));
        due.is("no ECHO yet", -1, x.sent(0, Net.ECHO, 0, 1));
        x.pump(4);
        due.is("ECHO", paper, x.sent(0, Net.ECHO, 0, 1));
        due.is("no READY yet", -1, x.sent(0, Net.READY, 0, 1));
        x.pump(8);
        x.pump(8);
        due.is("READY", paper, x.sent(0, Net.READY, 0, 1));
        due.is("no DONE yet", -1, x.sent(0, Net.DONE, 0, 1));
        x.pump(8);
        x.pump(8);
        due.is("DONE", paper, x.sent(0, Net.DONE, 0, 1));
        x.crash(0);
        for (int kind = Net.INIT; kind <= Net.DONE; kind++) {
            due.is("down, kind " + kind, paper, x.sent(0, kind, 0, 1));
        }
        x.corrupt(0);
        for (int kind = Net.INIT; kind <= Net.DONE; kind++) {
            due.is("faulty, kind " + kind, -1, x.sent(0, kind, 0, 1));
        }
        due.is("faulty, mark", -1, x.sent(0, Net.MARK, 0, 0));
    }

    /** Promise 13: "or there is no such kind (INIT is none here) or instance" */
    private void heardOfAKindAndInstance(int n) {
        due.part("promise 13, " + n + " nodes");
        int last = n - 1;
        Counted x = new Counted(n, 100);
        for (int kind : new int[] {LEAST, -1, 0, 1, 2, 3, 4, 5, 6, 8, GREATEST}) {
            due.is("kind " + kind, kind >= 1 && kind <= 3 ? 0 : -1, x.heard(0, kind, last, 5));
            due.is("kind " + kind + " about (0, 0)", kind == 4 ? 0 : -1, x.heard(0, kind, 0, 0));
        }
        for (int kind = Net.ECHO; kind <= Net.DONE; kind++) {
            for (int seq : new int[] {LEAST, -1, 0, 1, 5, 6, 7, GREATEST}) {
                due.is("kind " + kind + ", seq " + seq, seq == 1 || seq == 5 ? 0 : -1, x.heard(0, kind, last, seq));
            }
            for (int account : new int[] {LEAST, -1, 0, last, n, 7, 8, GREATEST}) {
                due.is("kind " + kind + ", account " + account, account == 0 || account == last ? 0 : -1,
                        x.heard(0, kind, account, 1));
            }
        }
        for (int i : new int[] {LEAST, -1, 0, 1, 5, GREATEST}) {
            due.is("marks about (" + i + ", 0)", i == 0 ? 0 : -1, x.heard(0, Net.MARK, i, 0));
            due.is("marks about (0, " + i + ")", i == 0 ? 0 : -1, x.heard(0, Net.MARK, 0, i));
        }
    }

    /** Promise 13: "From how many nodes a node has heard" */
    private void heardFromZeroToAll(int n) {
        due.part("promise 13, from how many of " + n);
        Counted x = new Counted(n, 100);
        x.submit(1, 0, 1);
        Net.settle(x);
        x.crash(0);
        x.restart(0);
        Net.markAll(x, n);
        for (int kind = Net.ECHO; kind <= Net.DONE; kind++) {
            for (int from = 0; from < n; from++) {
                due.is("kind " + kind, from, x.heard(0, kind, 1, 1));
                x.carry(from, 0, kind, 1, 1);
            }
            due.is("kind " + kind + ", all", n, x.heard(0, kind, 1, 1));
            due.is("kind " + kind + ", the next", 0, x.heard(0, kind, 1, 2));
            due.is("kind " + kind + ", another account", 0, x.heard(0, kind, 2, 1));
            due.is("kind " + kind + ", at another", n, x.heard(1, kind, 1, 1));
        }
        for (int from = n - 1; from >= 0; from--) {
            due.is("marks", n - 1 - from, x.heard(0, Net.MARK, 0, 0));
            x.carry(from, 0, Net.MARK, 0, 0);
        }
        due.is("marks of all", n, x.heard(0, Net.MARK, 0, 0));
    }

    private void heardMarks() {
        due.part("promise 13, marks");
        Counted x = new Counted(4, 100);
        x.mark(1);
        x.carry(1, 0, Net.MARK, 0, 0);
        x.submit(2, 3, 1);
        Net.settle(x);
        x.mark(1);
        due.is("a new mark is taken", 0, x.carry(1, 0, Net.MARK, 0, 0));
        due.is("it is of the same node", 1, x.heard(0, Net.MARK, 0, 0));
        x.crash(0);
        due.is("not after a crash", 0, x.heard(0, Net.MARK, 0, 0));
    }

    /** Promise 14: "-1 when there is none, it is not a correct node, or there is no such instance" */
    private void acceptedOfAnInstance() {
        due.part("promise 14");
        Counted x = new Counted(7, 100);
        x.corrupt(6);
        long paper = Net.paper(0, 101);
        for (int s = 1; s <= 5; s += 4) {
            for (int to = 0; to < 6; to++) {
                x.forge(6, to, Net.head(Net.INIT, 6, s), paper);
            }
        }
        Net.settle(x);
        for (int seq : new int[] {LEAST, -1, 0, 1, 2, 4, 5, 6, 7, GREATEST}) {
            due.is("seq " + seq, seq == 1 || seq == 5 ? paper : -1, x.accepted(0, 6, seq));
        }
        for (int account : new int[] {LEAST, -1, 0, 5, 6, 7, 8, GREATEST}) {
            due.is("account " + account, account == 6 ? paper : -1, x.accepted(0, account, 1));
        }
        for (int node : new int[] {LEAST, -1, 0, 5, 6, 7, 8, GREATEST}) {
            due.is("node " + node, node == 0 || node == 5 ? paper : -1, x.accepted(node, 6, 1));
        }
        x.crash(0);
        due.is("down", -1, x.accepted(0, 6, 1));
        x.corrupt(1);
        due.is("faulty", -1, x.accepted(1, 6, 1));
    }

    private void acceptedUntilApplied() {
        due.part("promise 14, until it is applied");
        Counted x = new Counted(4, 100);
        x.corrupt(3);
        Net.spreadInit(x, 4, 3, 2, Net.paper(0, 1));
        due.is("the second waits", Net.paper(0, 1), x.accepted(0, 3, 2));
        due.is("there is no first", -1, x.accepted(0, 3, 1));
        Net.spreadInit(x, 4, 3, 1, Net.paper(0, 2));
        due.is("the second is applied", -1, x.accepted(0, 3, 2));
        due.is("the first is applied", -1, x.accepted(0, 3, 1));
        due.is("applied", 2, x.applied(0, 3));
    }

    /** Promise 15: "How many papers of an account are applied at a node" */
    private void appliedFromZeroToFive() {
        due.part("promise 15");
        Counted x = new Counted(4, 100);
        for (int s = 1; s <= 5; s++) {
            due.is("before", s - 1, x.applied(2, 3));
            x.submit(3, 0, 1);
            due.is("submitted", s - 1, x.applied(3, 3));
            Net.settle(x);
            for (int i = 0; i < 4; i++) {
                due.is("after", s, x.applied(i, 3));
                due.is("of another", 0, x.applied(i, 2));
            }
        }
        x.crash(2);
        due.is("down", 5, x.applied(2, 3));
        Net.markAll(x, 4);
        Net.settle(x);
        due.is("freed", 5, x.applied(1, 3));
    }

    /** Promise 16: "The balance of an account at a node" */
    private void balanceFromNothingToAll() {
        due.part("promise 16");
        Counted x = new Counted(7, 1000);
        for (int i = 0; i < 6; i++) {
            x.submit(i, 6, 1000);
        }
        due.is("not by a submission", 1000, x.balance(0, 0));
        Net.settle(x);
        for (int i = 0; i < 7; i++) {
            for (int a = 0; a < 6; a++) {
                due.is("nothing is left", 0, x.balance(i, a));
            }
            due.is("all is there", 7000, x.balance(i, 6));
        }
        due.is("1023 of 7000", 1, x.submit(6, 0, 1023));
        due.is("1 of nothing", EchoPayments.POOR, x.submit(0, 1, 1));
    }

    /** Promise 17: "How many transfers of an account are freed at a node" */
    private void freedFromZeroToFive() {
        due.part("promise 17");
        for (int count = 0; count <= 5; count++) {
            Counted x = new Counted(4, 100);
            for (int s = 1; s <= count; s++) {
                x.submit(3, 0, 1);
            }
            Net.settle(x);
            Net.markAll(x, 4);
            due.is("before", 0, x.freed(1, 3));
            Net.settle(x);
            for (int i = 0; i < 4; i++) {
                due.is("after", count, x.freed(i, 3));
                due.is("of another", 0, x.freed(i, 0));
            }
            x.crash(2);
            due.is("down", count, x.freed(2, 3));
            x.corrupt(2);
            due.is("faulty", -1, x.freed(2, 3));
        }
    }

    /** Promise 18: "The number of instances for which a node has an ECHO paper or a READY paper or has heard ..." */
    private void keptByEachAlone() {
        due.part("promise 18");
        for (int kind = Net.ECHO; kind <= Net.DONE; kind++) {
            Counted x = new Counted(4, 100);
            x.corrupt(3);
            x.forge(3, 0, Net.head(kind, 1, 5), Net.paper(0, 1));
            due.is("heard " + kind + " alone", 1, x.kept(0));
            due.is("at another", 0, x.kept(1));
            x.crash(0);
            due.is("not heard any more", 0, x.kept(0));
        }
        Counted echo = new Counted(4, 100);
        echo.submit(1, 0, 1);
        due.is("a submission alone", 0, echo.kept(1));
        echo.carry(1, 0, Net.INIT, 1, 1);
        due.is("an ECHO paper alone", 1, echo.kept(0));
        echo.crash(0);
        due.is("it outlives a crash", 1, echo.kept(0));
        Counted x = new Counted(4, 100);
        x.crash(0);
        x.submit(1, 0, 1);
        Net.settle(x);
        x.restart(0);
        x.carry(1, 0, Net.READY, 1, 1);
        x.carry(2, 0, Net.READY, 1, 1);
        x.crash(0);
        due.is("a READY paper alone", 1, x.kept(0));
        x.restart(0);
        due.is("an applied paper", 0, x.carry(1, 0, Net.DONE, 1, 1));
        due.is("an applied paper", 1, x.carry(2, 0, Net.DONE, 1, 1));
        due.is("one instance counts once", 1, x.kept(0));
        Counted z = new Counted(4, 100);
        z.crash(0);
        z.submit(1, 0, 1);
        Net.settle(z);
        z.restart(0);
        z.carry(1, 0, Net.DONE, 1, 1);
        z.carry(2, 0, Net.DONE, 1, 1);
        due.is("heard", 1, z.kept(0));
        z.crash(0);
        due.is("an applied paper alone", 0, z.kept(0));
        due.is("it is applied", 1, z.applied(0, 1));
        z.restart(0);
        z.mark(0);
        z.carry(0, 0, Net.MARK, 0, 0);
        due.is("marks", 0, z.kept(0));
    }

    private void keptFromZeroToAll(int n) {
        due.part("promise 18, " + n + " nodes");
        Counted x = new Counted(n, 100);
        x.corrupt(0);
        int count = 0;
        for (int a = 0; a < n; a++) {
            for (int s = 1; s <= 5; s++) {
                due.is("kept", count, x.kept(1));
                x.forge(0, 1, Net.head(1 + count % 3, a, s), Net.paper(a == 0 ? 1 : 0, 1));
                count++;
            }
        }
        due.is("all", 5 * n, x.kept(1));
        x.forge(0, 1, Net.head(Net.INIT, 0, 1), Net.paper(1, 1));
        due.is("still all", 5 * n, x.kept(1));
        x.crash(1);
        due.is("the ECHO paper", 1, x.kept(1));
    }

    /** Promise 19: "-1 when there is no such node" */
    private void stateOfANode(int n) {
        due.part("promise 19, " + n + " nodes");
        Counted x = new Counted(n, 100);
        x.crash(n - 1);
        x.corrupt(n - 2);
        for (int i : new int[] {LEAST, LEAST + 1, -n, -2, -1, n, n + 1, 8, 16, GREATEST - 1, GREATEST}) {
            due.is("state " + i, -1, x.state(i));
        }
        for (int i = 0; i < n; i++) {
            due.is("state " + i, i == n - 1 ? 1 : i == n - 2 ? 2 : 0, x.state(i));
        }
        x.restart(n - 1);
        due.is("up again", 0, x.state(n - 1));
    }

    private void lookingChangesNothing() {
        for (Scene scene : Scene.all()) {
            due.part("looking, " + scene.name);
            for (int which = scene.nodes; which < View.count(scene.nodes); which++) {
                Counted x = scene.object();
                for (int i = 0; i < 2 * scene.nodes; i++) {
                    lookAtAll(x, i % scene.nodes);
                }
                String unlike = View.of(scene.object(), scene.nodes, which).unlike(View.of(x, scene.nodes, which));
                due.isTrue("all is as before (" + unlike + ")", unlike.isEmpty());
            }
        }
    }

    private void lookAtAll(Counted x, int i) {
        x.pending();
        x.sent(i, Net.ECHO, 0, 1);
        x.heard(i, Net.ECHO, 0, 2);
        x.accepted(i, 3, 1);
        x.applied(i, 0);
        x.balance(i, i);
        x.freed(i, 0);
        x.kept(i);
        x.state(i);
    }
}
