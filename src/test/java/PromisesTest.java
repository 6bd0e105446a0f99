/** One part for each promise of the document: ordinary inputs, the edges that it names, and wrong inputs. */
public final class PromisesTest {
    private static final int[] NO_NODES_OF_FOUR = {-1, 4, 7, Integer.MIN_VALUE, Integer.MAX_VALUE};

    private final Due due = new Due();

    public static void main(String[] args) {
        PromisesTest test = new PromisesTest();
        test.newObject();
        test.newObjectOfManySizes();
        test.submitRefused();
        test.submitInTheOrderOfItsAnswers();
        test.submitByBalance();
        test.submitNeeds();
        test.submitAfterFreeing();
        test.corrupt();
        test.forgeRefused();
        test.forgeAnswers();
        test.carryRefusedAndAbsent();
        test.carryAnswers();
        test.pumpOrder();
        test.pumpLooksAnew();
        test.pumpCounts();
        test.pending();
        test.crash();
        test.restart();
        test.fuse();
        test.mark();
        test.sent();
        test.heard();
        test.accepted();
        test.applied();
        test.balance();
        test.freed();
        test.kept();
        test.state();
        test.wrongNodesEverywhere();
        test.due.end();
    }

    private void newObject() {
        due.part("promise 1");
        Counted x = new Counted(4, 100);
        for (int i = 0; i < 4; i++) {
            due.is("state", 0, x.state(i));
            due.is("kept", 0, x.kept(i));
            due.is("the mark sent", -1, x.sent(i, Net.MARK, 0, 0));
            for (int a = 0; a < 4; a++) {
                due.is("balance", 100, x.balance(i, a));
                due.is("applied", 0, x.applied(i, a));
                due.is("freed", 0, x.freed(i, a));
                due.is("accepted", -1, x.accepted(i, a, 1));
            }
        }
        due.is("pending", 0, x.pending());
        due.is("pump", 0, x.pump(8));
    }

    private void newObjectOfManySizes() {
        due.part("promise 1");
        int[] given = {Integer.MIN_VALUE, -1, 0, 3, 4, 5, 6, 7, 8, 100, Integer.MAX_VALUE};
        int[] nodes = {4, 4, 4, 4, 4, 5, 6, 7, 7, 7, 7};
        int[] faults = {1, 1, 1, 1, 1, 1, 1, 2, 2, 2, 2};
        for (int i = 0; i < given.length; i++) {
            Counted x = new Counted(given[i], 10);
            due.is(given[i] + " nodes: the last one's state", 0, x.state(nodes[i] - 1));
            due.is(given[i] + " nodes: the state beyond", -1, x.state(nodes[i]));
            for (int c = 0; c < 4; c++) {
                due.is(given[i] + " nodes: corrupt(" + c + ")", c < faults[i], x.corrupt(c));
            }
        }
        int[] starts = {Integer.MIN_VALUE, -1, 0, 1, 999, 1000, 1001, Integer.MAX_VALUE};
        int[] balances = {0, 0, 0, 1, 999, 1000, 1000, 1000};
        for (int i = 0; i < starts.length; i++) {
            due.is("start " + starts[i], balances[i], new Counted(7, starts[i]).balance(6, 0));
        }
    }

    private void submitRefused() {
        due.part("promise 2");
        Counted x = new Counted(4, 1000);
        for (int wrong : NO_NODES_OF_FOUR) {
            due.is("submit by " + wrong, EchoPayments.REFUSED, x.submit(wrong, 1, 1));
            due.is("submit to " + wrong, EchoPayments.REFUSED, x.submit(0, wrong, 1));
        }
        for (int wrong : new int[] {0, -1, 1024, Integer.MIN_VALUE, Integer.MAX_VALUE}) {
            due.is("submit of " + wrong, EchoPayments.REFUSED, x.submit(0, 1, wrong));
        }
        due.is("submit to itself", EchoPayments.REFUSED, x.submit(2, 2, 1));
        x.crash(1);
        due.is("submit when down", EchoPayments.REFUSED, x.submit(1, 0, 1));
        x.corrupt(3);
        due.is("submit when faulty", EchoPayments.REFUSED, x.submit(3, 0, 1));
        due.is("submit to one that is down", 1, x.submit(0, 1, 1));
        due.is("submit to one that is faulty", 2, x.submit(0, 3, 999));
        due.is("its paper", Net.paper(3, 999), x.sent(0, Net.INIT, 0, 2));
        due.is("nothing of what was refused is pending", 4, x.pending());
    }

    private void submitInTheOrderOfItsAnswers() {
        due.part("promise 2");
        Counted x = new Counted(4, 5);
        x.fuse(0, 1);
        due.is("poor before crashed", EchoPayments.POOR, x.submit(0, 1, 6));
        due.is("still up", 0, x.state(0));
        due.is("crashed", EchoPayments.CRASHED, x.submit(0, 1, 5));
        due.is("down", 1, x.state(0));
        due.is("nothing submitted", -1, x.sent(0, Net.INIT, 0, 1));
        x.restart(0);
        for (int s = 1; s <= 5; s++) {
            due.is("submit", s, x.submit(0, 1, 1));
        }
        x.fuse(0, 1);
        due.is("full before poor and crashed", EchoPayments.FULL, x.submit(0, 1, 1));
        due.is("refused before full", EchoPayments.REFUSED, x.submit(0, 0, 1));
        due.is("still up", 0, x.state(0));
        due.is("what was full left the fuse", EchoPayments.CRASHED, x.mark(0));
    }

    private void submitByBalance() {
        due.part("promise 2");
        Counted x = new Counted(4, 100);
        due.is("submit", 1, x.submit(0, 1, 60));
        due.is("submitted, not applied", EchoPayments.POOR, x.submit(0, 1, 41));
        due.is("an income that is not applied", EchoPayments.POOR, x.submit(1, 0, 101));
        Net.settle(x);
        due.is("submitted and applied", EchoPayments.POOR, x.submit(0, 1, 41));
        due.is("the income", EchoPayments.POOR, x.submit(1, 0, 161));
        due.is("all of it", 1, x.submit(1, 0, 160));
        due.is("the rest", 2, x.submit(0, 2, 40));
        due.is("nothing left", EchoPayments.POOR, x.submit(0, 2, 1));
        Net.settle(x);
        due.is("balance", 160, x.balance(2, 0));
        due.is("submit", 3, x.submit(0, 2, 160));
        x.crash(0);
        x.restart(0);
        due.is("a crash leaves the submission", EchoPayments.POOR, x.submit(0, 2, 1));
        Counted rich = new Counted(4, 1000);
        due.is("1023 is more than 1000", EchoPayments.POOR, rich.submit(0, 1, 1023));
        rich.submit(1, 0, 23);
        Net.settle(rich);
        due.is("1023", 1, rich.submit(0, 1, 1023));
        due.is("its paper", Net.paper(1, 1023) + Net.need(1, 1), rich.sent(0, Net.INIT, 0, 1));
    }

    private void submitNeeds() {
        due.part("promise 2");
        Counted x = new Counted(7, 100);
        int[] payees = {0, 2, 0, 2};
        for (int payee : payees) {
            x.submit(1, payee, 1);
        }
        x.submit(6, 0, 1);
        x.submit(5, 4, 1);
        due.is("needs nothing that is not applied", 1, x.submit(0, 3, 2));
        due.is("its paper", Net.paper(3, 2), x.sent(0, Net.INIT, 0, 1));
        Net.settle(x);
        due.is("submit", 2, x.submit(0, 3, 2));
        due.is("the greatest of those that paid it", Net.paper(3, 2) + Net.need(1, 3) + Net.need(6, 1),
                x.sent(0, Net.INIT, 0, 2));
        Net.markAll(x, 7);
        Net.settle(x);
        due.is("freed", 4, x.freed(0, 1));
        due.is("submit", 3, x.submit(0, 3, 2));
        due.is("freed or not", Net.paper(3, 2) + Net.need(1, 3) + Net.need(6, 1), x.sent(0, Net.INIT, 0, 3));
        due.is("submit", 1, x.submit(3, 0, 1));
        due.is("it was paid by 0 alone", Net.paper(0, 1) + Net.need(0, 2), x.sent(3, Net.INIT, 3, 1));
        due.is("submit", 2, x.submit(5, 0, 1));
        due.is("nobody paid it", Net.paper(0, 1), x.sent(5, Net.INIT, 5, 2));
    }

    private void submitAfterFreeing() {
        due.part("promise 2");
        Counted x = new Counted(4, 100);
        for (int s = 1; s <= 5; s++) {
            x.submit(0, 1, 10);
        }
        Net.settle(x);
        Net.markAll(x, 4);
        Net.settle(x);
        due.is("freed", 5, x.freed(0, 0));
        due.is("five remain five", EchoPayments.FULL, x.submit(0, 1, 1));
        due.is("no INIT", -1, x.sent(0, Net.INIT, 0, 5));
        due.is("applied", 5, x.applied(0, 0));
        due.is("balance", 50, x.balance(0, 0));
    }

    private void corrupt() {
        due.part("promise 3");
        Counted x = new Counted(7, 100);
        for (int wrong : new int[] {-1, 7, Integer.MIN_VALUE, Integer.MAX_VALUE}) {
            due.is("corrupt " + wrong, false, x.corrupt(wrong));
        }
        x.submit(0, 1, 10);
        x.carry(0, 5, Net.INIT, 0, 1);
        x.carry(5, 2, Net.ECHO, 0, 1);
        x.crash(5);
        due.is("corrupt one that is down", true, x.corrupt(5));
        due.is("state", 2, x.state(5));
        due.is("what was heard stays heard", 1, x.heard(2, Net.ECHO, 0, 1));
        due.is("it is repeated", EchoPayments.REPEATED, x.forge(5, 2, Net.head(Net.ECHO, 0, 1), Net.paper(2, 9)));
        due.is("corrupt it again", false, x.corrupt(5));
        due.is("the second", true, x.corrupt(6));
        due.is("no third", false, x.corrupt(0));
        due.is("the third stays correct", 0, x.state(0));
        due.is("restart", false, x.restart(5));
        due.is("crash", false, x.crash(6));
        due.is("fuse", false, x.fuse(6, 1));
        due.is("mark", EchoPayments.REFUSED, x.mark(6));
        due.is("state for ever", 2, x.state(6));
    }

    private void forgeRefused() {
        due.part("promise 4");
        Counted x = new Counted(7, 100);
        int head = Net.head(Net.INIT, 5, 1);
        long paper = Net.paper(0, 1);
        due.is("from a correct node", EchoPayments.REFUSED, x.forge(5, 0, head, paper));
        x.crash(4);
        due.is("from one that is down", EchoPayments.REFUSED, x.forge(4, 0, head, paper));
        x.corrupt(5);
        x.corrupt(6);
        due.is("to a faulty node", EchoPayments.REFUSED, x.forge(5, 6, head, paper));
        due.is("to itself", EchoPayments.REFUSED, x.forge(5, 5, head, paper));
        due.is("to one that is down", EchoPayments.REFUSED, x.forge(5, 4, head, paper));
        for (int wrong : new int[] {-1, 7, 8, Integer.MIN_VALUE, Integer.MAX_VALUE}) {
            due.is("from " + wrong, EchoPayments.REFUSED, x.forge(wrong, 0, head, paper));
            due.is("to " + wrong, EchoPayments.REFUSED, x.forge(5, wrong, head, paper));
        }
        due.is("refused before malformed", EchoPayments.REFUSED, x.forge(5, 4, 7, -1));
        due.is("well", 0, x.forge(5, 0, head, paper));
        due.is("its ECHO", paper, x.sent(0, Net.ECHO, 5, 1));
        due.is("stranger", EchoPayments.STRANGER, x.forge(6, 1, head, paper));
    }

    private void forgeAnswers() {
        due.part("promise 4");
        Counted x = new Counted(4, 100);
        x.corrupt(3);
        x.crash(0);
        long first = Net.paper(1, 30);
        long second = Net.paper(2, 40);
        Net.spreadFrom3(x, 1, first);
        Net.spreadFrom3(x, 2, second);
        due.is("applied at 1", 2, x.applied(1, 3));
        due.is("applied at 2", 2, x.applied(2, 3));
        x.restart(0);
        due.is("one DONE", 0, x.carry(1, 0, Net.DONE, 3, 2));
        due.is("two DONE, but the first wants", 0, x.forge(3, 0, Net.head(Net.DONE, 3, 2), second));
        due.is("accepted", second, x.accepted(0, 3, 2));
        due.is("one DONE", 0, x.carry(2, 0, Net.DONE, 3, 1));
        x.fuse(0, 2);
        due.is("it crashes at the second of two", EchoPayments.CRASHED,
                x.forge(3, 0, Net.head(Net.DONE, 3, 1), first));
        due.is("the first was written", 1, x.applied(0, 3));
        due.is("it is down", 1, x.state(0));
        due.is("what was accepted is forgotten", -1, x.accepted(0, 3, 2));
        x.restart(0);
        due.is("one DONE", 0, x.carry(1, 0, Net.DONE, 3, 2));
        due.is("it applies one", 1, x.forge(3, 0, Net.head(Net.DONE, 3, 2), second));
        due.is("balance", 30, x.balance(0, 3));
        forgeAppliesTwo();
    }

    private void forgeAppliesTwo() {
        Counted x = new Counted(4, 100);
        x.corrupt(3);
        x.crash(0);
        Net.spreadFrom3(x, 1, Net.paper(1, 30));
        Net.spreadFrom3(x, 2, Net.paper(2, 40));
        x.restart(0);
        x.carry(1, 0, Net.DONE, 3, 2);
        x.carry(2, 0, Net.DONE, 3, 2);
        x.carry(1, 0, Net.DONE, 3, 1);
        due.is("another paper counts for nothing", 0, x.forge(3, 0, Net.head(Net.DONE, 3, 1), Net.paper(1, 31)));
        due.is("two at once", 2, x.carry(2, 0, Net.DONE, 3, 1));
        due.is("balance", 30, x.balance(0, 3));
    }

    private void carryRefusedAndAbsent() {
        due.part("promise 5");
        Counted x = new Counted(4, 100);
        x.submit(0, 1, 10);
        x.submit(3, 1, 10);
        x.crash(1);
        for (int wrong : NO_NODES_OF_FOUR) {
            due.is("from " + wrong, EchoPayments.REFUSED, x.carry(wrong, 2, Net.INIT, 0, 1));
            due.is("to " + wrong, EchoPayments.REFUSED, x.carry(0, wrong, Net.INIT, 0, 1));
            due.is("account " + wrong, EchoPayments.ABSENT, x.carry(0, 2, Net.INIT, wrong, 1));
        }
        due.is("to one that is down", EchoPayments.REFUSED, x.carry(0, 1, Net.INIT, 0, 1));
        x.corrupt(3);
        due.is("from a faulty node", EchoPayments.REFUSED, x.carry(3, 2, Net.INIT, 3, 1));
        due.is("to a faulty node", EchoPayments.REFUSED, x.carry(0, 3, Net.INIT, 0, 1));
        due.is("refused before absent", EchoPayments.REFUSED, x.carry(0, 3, 9, 9, 9));
        for (int kind : new int[] {-1, 1, 2, 3, 4, 5, 8, Integer.MIN_VALUE, Integer.MAX_VALUE}) {
            due.is("kind " + kind, EchoPayments.ABSENT, x.carry(0, 2, kind, 0, 1));
        }
        for (int seq : new int[] {-1, 0, 2, 5, 6, 65, Integer.MIN_VALUE, Integer.MAX_VALUE}) {
            due.is("seq " + seq, EchoPayments.ABSENT, x.carry(0, 2, Net.INIT, 0, seq));
        }
        due.is("another one's INIT", EchoPayments.ABSENT, x.carry(2, 0, Net.INIT, 0, 1));
        due.is("no mark", EchoPayments.ABSENT, x.carry(0, 2, Net.MARK, 0, 0));
        x.mark(0);
        due.is("a mark about (0, 1)", EchoPayments.ABSENT, x.carry(0, 2, Net.MARK, 0, 1));
        due.is("a mark about (1, 0)", EchoPayments.ABSENT, x.carry(0, 2, Net.MARK, 1, 0));
        due.is("a mark", 0, x.carry(0, 2, Net.MARK, 0, 0));
    }

    private void carryAnswers() {
        due.part("promise 5");
        Counted x = new Counted(4, 100);
        x.submit(0, 1, 10);
        x.crash(0);
        due.is("from one that is down", 0, x.carry(0, 2, Net.INIT, 0, 1));
        due.is("once more", EchoPayments.REPEATED, x.carry(0, 2, Net.INIT, 0, 1));
        due.is("to itself", 0, x.carry(2, 2, Net.ECHO, 0, 1));
        x.restart(0);
        x.crash(3);
        Net.settle(x);
        x.restart(3);
        due.is("one DONE", 0, x.carry(0, 3, Net.DONE, 0, 1));
        due.is("two DONE", 1, x.carry(1, 3, Net.DONE, 0, 1));
        due.is("three DONE", 0, x.carry(2, 3, Net.DONE, 0, 1));
        due.is("balance", 110, x.balance(3, 1));
    }

    private void pumpOrder() {
        due.part("promise 6");
        Counted x = new Counted(4, 100);
        x.mark(0);
        x.submit(1, 0, 1);
        x.submit(0, 1, 2);
        x.submit(0, 1, 3);
        for (int account = 0; account < 2; account++) {
            for (int seq = 1; seq <= 2 - account; seq++) {
                for (int to = 0; to < 4; to++) {
                    due.is("before its turn", -1, x.sent(to, Net.ECHO, account, seq));
                    due.is("pump", 1, x.pump(1));
                    due.isTrue("INIT comes by account, seq and receiver", x.sent(to, Net.ECHO, account, seq) > 0);
                }
            }
        }
        for (int from = 0; from < 4; from++) {
            for (int to = 0; to < 4; to++) {
                due.is("before its turn", from, x.heard(to, Net.ECHO, 0, 1));
                due.is("pump", 1, x.pump(1));
                due.is("ECHO comes by sender and receiver", EchoPayments.REPEATED, x.carry(from, to, Net.ECHO, 0, 1));
            }
        }
        due.is("then the second one", 0, x.heard(0, Net.ECHO, 0, 2));
        due.is("pump", 8, x.pump(8));
        due.is("half of it", 2, x.heard(3, Net.ECHO, 0, 2));
        due.is("READY waits", 0, x.heard(0, Net.READY, 0, 1));
        due.is("the marks wait", 0, x.heard(0, Net.MARK, 0, 0));
        for (int i = 0; i < 3; i++) {
            x.pump(8);
        }
        due.is("the last ECHO", 4, x.heard(3, Net.ECHO, 1, 1));
        due.is("READY waits", 0, x.heard(0, Net.READY, 0, 1));
        due.is("all else", 96 + 4, Net.settle(x));
        due.is("the marks at last", 1, x.heard(3, Net.MARK, 0, 0));
    }

    /** By a DONE about account 1, a DONE about account 0 comes to be pending, which goes before. */
    private void pumpLooksAnew() {
        due.part("promise 6");
        Counted x = new Counted(4, 50);
        x.crash(3);
        x.submit(1, 0, 50);
        Net.settle(x);
        x.submit(0, 2, 100);
        Net.settle(x);
        Net.markAll(x, 3);
        Net.settle(x);
        x.restart(3);
        due.is("only DONE and the marks are left", 9, x.pending());
        due.is("pump", 3, x.pump(3));
        due.is("account 0 comes first, but waits", 0, x.applied(3, 0));
        due.is("accepted", Net.paper(2, 100) + Net.need(1, 1), x.accepted(3, 0, 1));
        due.is("pump", 2, x.pump(2));
        due.is("applied", 1, x.applied(3, 1));
        due.is("applied with it", 1, x.applied(3, 0));
        due.is("balance", 150, x.balance(3, 2));
        due.is("pump", 1, x.pump(1));
        due.is("its own DONE about account 0 went before", EchoPayments.REPEATED, x.carry(3, 3, Net.DONE, 0, 1));
        due.is("and the third about account 1 waited", 0, x.carry(2, 3, Net.DONE, 1, 1));
    }

    private void pumpCounts() {
        due.part("promise 6");
        Counted x = new Counted(4, 100);
        for (int wrong : new int[] {0, -1, 9, Integer.MIN_VALUE, Integer.MAX_VALUE}) {
            due.is("pump " + wrong, EchoPayments.REFUSED, x.pump(wrong));
        }
        x.submit(0, 1, 1);
        due.is("a refused pump delivers nothing", EchoPayments.REFUSED, x.pump(0));
        due.is("pending", 4, x.pending());
        x.fuse(1, 1);
        due.is("what crashes a node is received too", 3, x.pump(3));
        due.is("it crashed", 1, x.state(1));
        due.isTrue("those after it go on", x.sent(2, Net.ECHO, 0, 1) > 0);
        due.is("fewer", 1 + 3 * 3 * 3, Net.settle(x));
        due.is("none", 0, x.pump(1));
    }

    private void pending() {
        due.part("promise 7");
        Counted x = new Counted(5, 100);
        x.submit(0, 1, 10);
        due.is("to every node, itself included", 5, x.pending());
        x.crash(4);
        due.is("not to one that is down", 4, x.pending());
        x.corrupt(3);
        due.is("not to a faulty one", 3, x.pending());
        x.pump(3);
        due.is("their ECHO", 9, x.pending());
        x.crash(0);
        due.is("from one that is down too", 6, x.pending());
        x.restart(4);
        due.is("INIT and three ECHO more", 10, x.pending());
        x.carry(0, 1, Net.ECHO, 0, 1);
        due.is("what is heard is not pending", 9, x.pending());
        x.crash(1);
        x.restart(1);
        due.is("what was heard in another life is", 10, x.pending());
        x.mark(2);
        due.is("a mark", 13, x.pending());
        x.fuse(4, 1);
        due.is("what would crash its receiver would be taken", 13, x.pending());
        due.is("to look changes nothing", 13, x.pending());
        Counted z = new Counted(4, 100);
        z.submit(0, 1, 10);
        z.carry(0, 1, Net.INIT, 0, 1);
        z.corrupt(0);
        due.is("not from a faulty one, which sent before: one ECHO to three nodes", 3, z.pending());
        due.is("pump", 3, z.pump(8));
    }

    private void crash() {
        due.part("promise 8");
        Counted x = new Counted(4, 100);
        x.submit(0, 1, 10);
        Net.settle(x);
        x.mark(2);
        x.submit(2, 0, 5);
        x.carry(2, 2, Net.MARK, 0, 0);
        x.fuse(2, 1);
        due.is("crash", true, x.crash(2));
        due.is("crash again", false, x.crash(2));
        due.is("state", 1, x.state(2));
        for (int kind = Net.ECHO; kind <= Net.DONE; kind++) {
            due.is("the head is empty", 0, x.heard(2, kind, 0, 1));
            due.is("the store stays", Net.paper(1, 10), x.sent(2, kind, 0, 1));
        }
        due.is("no marks are heard", 0, x.heard(2, Net.MARK, 0, 0));
        due.is("its mark stays", 1, x.sent(2, Net.MARK, 0, 0));
        due.is("its submission stays", Net.paper(0, 5), x.sent(2, Net.INIT, 2, 1));
        due.is("applied stays", 1, x.applied(2, 0));
        due.is("balance stays", 110, x.balance(2, 1));
        due.is("kept by its papers", 1, x.kept(2));
        x.restart(2);
        due.is("the fuse is out", 1, x.mark(2));
        for (int wrong : NO_NODES_OF_FOUR) {
            due.is("crash " + wrong, false, x.crash(wrong));
        }
    }

    private void restart() {
        due.part("promise 9");
        Counted x = new Counted(4, 100);
        due.is("one that is up", false, x.restart(0));
        x.crash(0);
        due.is("one that is down", true, x.restart(0));
        due.is("state", 0, x.state(0));
        due.is("again", false, x.restart(0));
        x.crash(0);
        x.corrupt(0);
        due.is("a faulty one", false, x.restart(0));
        due.is("stays faulty", 2, x.state(0));
        for (int wrong : NO_NODES_OF_FOUR) {
            due.is("restart " + wrong, false, x.restart(wrong));
        }
        x.submit(1, 2, 10);
        x.crash(3);
        x.restart(3);
        due.is("it receives again", 0, x.carry(1, 3, Net.INIT, 1, 1));
    }

    private void fuse() {
        due.part("promise 10");
        Counted x = new Counted(4, 100);
        for (int wrong : NO_NODES_OF_FOUR) {
            due.is("fuse of " + wrong, false, x.fuse(wrong, 1));
        }
        for (int wrong : new int[] {-1, 10, Integer.MIN_VALUE, Integer.MAX_VALUE}) {
            due.is("fuse " + wrong, false, x.fuse(0, wrong));
        }
        due.is("no fuse was set", 0, x.mark(0));
        due.is("fuse 9", true, x.fuse(0, 9));
        for (int i = 0; i < 8; i++) {
            due.is("a mark that is what it was is a writing", 0, x.mark(0));
        }
        due.is("the ninth", EchoPayments.CRASHED, x.mark(0));
        due.is("one that is down", false, x.fuse(0, 1));
        x.restart(0);
        due.is("fuse 1", true, x.fuse(0, 1));
        due.is("fuse 0", true, x.fuse(0, 0));
        due.is("it has none", 0, x.mark(0));
        due.is("fuse 2", true, x.fuse(0, 2));
        due.is("a wrong fuse changes nothing", false, x.fuse(0, 10));
        due.is("first", 0, x.mark(0));
        due.is("second", EchoPayments.CRASHED, x.mark(0));
        x.corrupt(1);
        due.is("a faulty one", false, x.fuse(1, 1));
    }

    private void mark() {
        due.part("promise 11");
        Counted x = new Counted(7, 100);
        x.submit(6, 0, 1);
        x.submit(6, 0, 1);
        x.submit(1, 0, 1);
        Net.settle(x);
        due.is("mark", 2 * 8 * 8 * 8 * 8 * 8 * 8 + 8, x.mark(3));
        due.is("it is sent", 2 * 262144 + 8, x.sent(3, Net.MARK, 0, 0));
        due.is("nothing is freed", 0, x.freed(3, 6));
        x.submit(0, 1, 1);
        Net.settle(x);
        due.is("the mark stays until it is made anew", 2 * 262144 + 8, x.sent(3, Net.MARK, 0, 0));
        x.fuse(3, 1);
        due.is("crashed", EchoPayments.CRASHED, x.mark(3));
        due.is("the old mark stays", 2 * 262144 + 8, x.sent(3, Net.MARK, 0, 0));
        due.is("down", EchoPayments.REFUSED, x.mark(3));
        x.restart(3);
        due.is("mark", 2 * 262144 + 9, x.mark(3));
        x.corrupt(4);
        due.is("faulty", EchoPayments.REFUSED, x.mark(4));
        for (int wrong : new int[] {-1, 7, Integer.MIN_VALUE, Integer.MAX_VALUE}) {
            due.is("mark " + wrong, EchoPayments.REFUSED, x.mark(wrong));
        }
        Counted alone = new Counted(4, 100);
        due.is("of nothing", 0, alone.mark(0));
        due.is("of nothing", 0, alone.sent(0, Net.MARK, 0, 0));
    }

    private void sent() {
        due.part("promise 12");
        Counted x = new Counted(4, 100);
        x.submit(0, 1, 10);
        long paper = Net.paper(1, 10);
        due.is("INIT", paper, x.sent(0, Net.INIT, 0, 1));
        due.is("INIT of another", -1, x.sent(1, Net.INIT, 0, 1));
        for (int kind = Net.ECHO; kind <= Net.MARK; kind++) {
            due.is("none yet", -1, x.sent(0, kind, 0, 1));
        }
        Net.settle(x);
        for (int kind = Net.INIT; kind <= Net.DONE; kind++) {
            due.is("kind " + kind, paper, x.sent(0, kind, 0, 1));
            due.is("seq 0", -1, x.sent(0, kind, 0, 0));
            due.is("seq 2", -1, x.sent(0, kind, 0, 2));
            due.is("seq 6", -1, x.sent(0, kind, 0, 6));
            due.is("seq -1", -1, x.sent(0, kind, 0, -1));
            due.is("account 1", -1, x.sent(0, kind, 1, 1));
            due.is("account 4", -1, x.sent(0, kind, 4, 1));
            due.is("account -1", -1, x.sent(0, kind, -1, 1));
        }
        due.is("account 1, seq -4 is no other name of it", -1, x.sent(0, Net.ECHO, 1, -4));
        due.is("kind -1", -1, x.sent(0, -1, 0, 1));
        due.is("kind 5", -1, x.sent(0, 5, 0, 0));
        x.mark(0);
        due.is("mark", 1, x.sent(0, Net.MARK, 0, 0));
        due.is("mark about (0, 1)", -1, x.sent(0, Net.MARK, 0, 1));
        due.is("mark about (1, 0)", -1, x.sent(0, Net.MARK, 1, 0));
        x.crash(0);
        due.is("down", paper, x.sent(0, Net.INIT, 0, 1));
        x.corrupt(0);
        due.is("faulty", -1, x.sent(0, Net.INIT, 0, 1));
        due.is("faulty", -1, x.sent(0, Net.MARK, 0, 0));
    }

    private void heard() {
        due.part("promise 13");
        Counted x = new Counted(4, 100);
        x.corrupt(3);
        due.is("none", 0, x.heard(0, Net.ECHO, 3, 5));
        for (int kind = Net.ECHO; kind <= Net.DONE; kind++) {
            x.forge(3, 0, Net.head(kind, 3, 5), Net.paper(0, 1));
            due.is("kind " + kind, 1, x.heard(0, kind, 3, 5));
            due.is("another instance", 0, x.heard(0, kind, 3, 4));
            due.is("seq 0", -1, x.heard(0, kind, 3, 0));
            due.is("seq 6", -1, x.heard(0, kind, 3, 6));
            due.is("account 4", -1, x.heard(0, kind, 4, 1));
            due.is("account -1", -1, x.heard(0, kind, -1, 1));
            due.is("(0, 0)", -1, x.heard(0, kind, 0, 0));
        }
        due.is("INIT is none here", -1, x.heard(0, Net.INIT, 3, 1));
        due.is("kind 5", -1, x.heard(0, 5, 3, 1));
        due.is("kind -1", -1, x.heard(0, -1, 3, 1));
        due.is("no marks", 0, x.heard(0, Net.MARK, 0, 0));
        x.mark(1);
        x.carry(1, 0, Net.MARK, 0, 0);
        x.forge(3, 0, Net.head(Net.MARK, 0, 0), 1);
        due.is("two marks", 2, x.heard(0, Net.MARK, 0, 0));
        x.forge(3, 0, Net.head(Net.MARK, 0, 0), 2);
        due.is("another mark of the same node", 2, x.heard(0, Net.MARK, 0, 0));
        due.is("marks about (0, 1)", -1, x.heard(0, Net.MARK, 0, 1));
        due.is("marks about (1, 0)", -1, x.heard(0, Net.MARK, 1, 0));
        due.is("faulty", -1, x.heard(3, Net.ECHO, 3, 1));
        x.crash(0);
        due.is("down", 0, x.heard(0, Net.ECHO, 3, 5));
        due.is("down", 0, x.heard(0, Net.MARK, 0, 0));
    }

    private void accepted() {
        due.part("promise 14");
        Counted x = new Counted(4, 100);
        x.corrupt(3);
        long paper = Net.paper(0, 101);
        Net.spreadFrom3(x, 1, paper);
        for (int i = 0; i < 3; i++) {
            due.is("accepted, but the balance does not suffice", paper, x.accepted(i, 3, 1));
            due.is("not applied", 0, x.applied(i, 3));
        }
        due.is("another seq", -1, x.accepted(0, 3, 2));
        due.is("seq 0", -1, x.accepted(0, 3, 0));
        due.is("seq 6", -1, x.accepted(0, 3, 6));
        due.is("account 4", -1, x.accepted(0, 4, 1));
        due.is("account -1", -1, x.accepted(0, -1, 1));
        due.is("faulty", -1, x.accepted(3, 3, 1));
        x.crash(2);
        due.is("down", -1, x.accepted(2, 3, 1));
        x.restart(2);
        x.submit(0, 3, 1);
        Net.settle(x);
        due.is("applied now", 1, x.applied(0, 3));
        due.is("accepted no more", -1, x.accepted(0, 3, 1));
        due.is("balance", 200, x.balance(0, 0));
        due.is("balance", 0, x.balance(0, 3));
    }

    private void applied() {
        due.part("promise 15");
        Counted x = new Counted(4, 100);
        x.submit(0, 1, 10);
        x.submit(0, 1, 10);
        x.submit(2, 1, 10);
        Net.settle(x);
        for (int i = 0; i < 4; i++) {
            due.is("of 0", 2, x.applied(i, 0));
            due.is("of 1", 0, x.applied(i, 1));
            due.is("of 2", 1, x.applied(i, 2));
            due.is("of 4", -1, x.applied(i, 4));
            due.is("of -1", -1, x.applied(i, -1));
        }
        x.crash(1);
        due.is("down", 2, x.applied(1, 0));
        x.corrupt(1);
        due.is("faulty", -1, x.applied(1, 0));
    }

    private void balance() {
        due.part("promise 16");
        Counted x = new Counted(4, 100);
        x.submit(0, 1, 10);
        x.submit(2, 1, 20);
        due.is("not by a submission", 100, x.balance(0, 0));
        Net.settle(x);
        for (int i = 0; i < 4; i++) {
            due.is("of 0", 90, x.balance(i, 0));
            due.is("of 1", 130, x.balance(i, 1));
            due.is("of 2", 80, x.balance(i, 2));
            due.is("of 3", 100, x.balance(i, 3));
            due.is("of 4", -1, x.balance(i, 4));
            due.is("of -1", -1, x.balance(i, -1));
        }
        Net.markAll(x, 4);
        Net.settle(x);
        due.is("freeing changes no balance", 130, x.balance(0, 1));
        x.crash(1);
        due.is("down", 130, x.balance(1, 1));
        x.corrupt(1);
        due.is("faulty", -1, x.balance(1, 1));
        due.is("of a faulty node at another", 130, x.balance(0, 1));
    }

    private void freed() {
        due.part("promise 17");
        Counted x = new Counted(4, 100);
        x.submit(0, 1, 10);
        x.submit(0, 1, 10);
        x.submit(3, 1, 10);
        Net.settle(x);
        Net.markAll(x, 4);
        due.is("not by marks that are not heard", 0, x.freed(1, 0));
        Net.settle(x);
        for (int i = 0; i < 4; i++) {
            due.is("of 0", 2, x.freed(i, 0));
            due.is("of 1", 0, x.freed(i, 1));
            due.is("of 3", 1, x.freed(i, 3));
            due.is("of 4", -1, x.freed(i, 4));
            due.is("of -1", -1, x.freed(i, -1));
        }
        x.crash(1);
        due.is("down", 2, x.freed(1, 0));
        x.corrupt(1);
        due.is("faulty", -1, x.freed(1, 0));
    }

    private void kept() {
        due.part("promise 18");
        Counted x = new Counted(4, 100);
        x.corrupt(3);
        x.submit(0, 1, 1);
        due.is("a submission is not kept", 0, x.kept(0));
        for (int kind = Net.INIT; kind <= Net.DONE; kind++) {
            x.forge(3, 0, Net.head(kind, 3, kind + 1), Net.paper(0, 1));
            due.is("kind " + kind, kind + 1, x.kept(0));
        }
        x.forge(3, 0, Net.head(Net.DONE, 3, 1), Net.paper(0, 1));
        due.is("an instance counts once", 4, x.kept(0));
        x.mark(1);
        x.carry(1, 0, Net.MARK, 0, 0);
        due.is("a mark is no instance", 4, x.kept(0));
        x.crash(0);
        due.is("what is written stays", 1, x.kept(0));
        due.is("faulty", -1, x.kept(3));
        due.is("nothing", 0, x.kept(1));
    }

    private void state() {
        due.part("promise 19");
        Counted x = new Counted(4, 100);
        due.is("up", 0, x.state(2));
        x.crash(2);
        due.is("down", 1, x.state(2));
        x.corrupt(2);
        due.is("faulty", 2, x.state(2));
        for (int wrong : NO_NODES_OF_FOUR) {
            due.is("state " + wrong, -1, x.state(wrong));
        }
    }

    private void wrongNodesEverywhere() {
        due.part("promises 12 to 18");
        Counted x = new Counted(4, 100);
        x.mark(0);
        for (int wrong : NO_NODES_OF_FOUR) {
            due.is("sent", -1, x.sent(wrong, Net.MARK, 0, 0));
            due.is("heard", -1, x.heard(wrong, Net.ECHO, 0, 1));
            due.is("accepted", -1, x.accepted(wrong, 0, 1));
            due.is("applied", -1, x.applied(wrong, 0));
            due.is("balance", -1, x.balance(wrong, 0));
            due.is("freed", -1, x.freed(wrong, 0));
            due.is("kept", -1, x.kept(wrong));
            due.is("applied of " + wrong, -1, x.applied(0, wrong));
            due.is("balance of " + wrong, -1, x.balance(0, wrong));
            due.is("freed of " + wrong, -1, x.freed(0, wrong));
            due.is("sent, kind " + wrong, wrong == 4 ? 0 : -1, x.sent(0, wrong, 0, 0));
            due.is("sent, seq " + wrong, -1, x.sent(0, Net.ECHO, 0, wrong));
            due.is("heard, seq " + wrong, wrong == 4 ? 0 : -1, x.heard(0, Net.ECHO, 0, wrong));
            due.is("accepted, seq " + wrong, -1, x.accepted(0, 0, wrong));
        }
    }
}
