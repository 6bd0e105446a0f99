/** "Terms" on what a node keeps, has sent, receives and takes: each sentence with its boundary, from both sides. */
public final class ReceiveEdgesTest {
    private static final int OLD = EchoPayments.OLD;
    private static final int REPEATED = EchoPayments.REPEATED;
    private static final int STRANGER = EchoPayments.STRANGER;
    private static final int MALFORMED = EchoPayments.MALFORMED;
    private static final int[] READY_QUORUM_OF_ECHO = {3, 4, 4, 5};
    private static final int[] FAULTY = {1, 1, 1, 2};

    private final Due due = new Due();

    public static void main(String[] args) {
        ReceiveEdgesTest test = new ReceiveEdgesTest();
        test.crashLeavesTheStore(false);
        test.crashLeavesTheStore(true);
        test.crashEmptiesTheHead(false);
        test.crashEmptiesTheHead(true);
        test.initIsSentByItsOwnerUntilFreed();
        test.doneIsSentFreedOrNot();
        test.sentToEveryNodeUpOrDown();
        test.theFirstObjectionIsTheAnswer();
        test.onlyInitKnowsStrangers();
        test.oldUpToTheFreedOnes();
        test.initIsRepeatedByAnEchoPaperAlone();
        test.heardOncePerKindInstanceAndSender();
        test.repeatedLeavesTheFirstPaper();
        test.markIsRepeatedByTheLastAlone();
        for (int n = 4; n <= 7; n++) {
            test.echoesForOnePaper(n);
            test.readiesForOnePaper(n);
            test.acceptedByReady(n);
            test.acceptedByDone(n);
            test.readyAndDoneAreNotAddedUp(n);
            test.marksThatAreEqual(n);
        }
        test.appliedIsNotAcceptedAgain();
        test.laterOnesAreAcceptedAndWait();
        test.fiveAtOnce();
        test.fifteenAtOnce();
        test.theLeastEachTime();
        test.balanceThatJustSuffices();
        test.needThatIsJustMet();
        test.everyNeedMustBeMet();
        test.due.end();
    }

    private void crash(Counted x, int node, boolean byFuse) {
        if (byFuse) {
            x.fuse(node, 1);
            due.is("crash by the fuse", EchoPayments.CRASHED, x.mark(node));
        } else {
            due.is("crash", true, x.crash(node));
        }
        due.is("state", 1, x.state(node));
    }

    /** "A correct node has a STORE, which a crash leaves as it is" */
    private void crashLeavesTheStore(boolean byFuse) {
        due.part("store");
        Counted x = new Counted(4, 100);
        x.submit(0, 1, 10);
        Net.settle(x);
        Net.markAll(x, 4);
        Net.settle(x);
        x.submit(0, 1, 20);
        Net.settle(x);
        x.submit(2, 0, 5);
        storeOfNode2(x);
        crash(x, 2, byFuse);
        storeOfNode2(x);
        x.restart(2);
        storeOfNode2(x);
        due.is("one too many to spend", EchoPayments.POOR, x.submit(2, 1, 96));
        due.is("all that is left", 2, x.submit(2, 1, 95));
    }

    private void storeOfNode2(Counted x) {
        due.is("submitted", Net.paper(0, 5), x.sent(2, Net.INIT, 2, 1));
        due.is("ECHO", Net.paper(1, 20), x.sent(2, Net.ECHO, 0, 2));
        due.is("READY", Net.paper(1, 20), x.sent(2, Net.READY, 0, 2));
        due.is("the first applied", Net.paper(1, 10), x.sent(2, Net.DONE, 0, 1));
        due.is("the second applied", Net.paper(1, 20), x.sent(2, Net.DONE, 0, 2));
        due.is("no third", -1, x.sent(2, Net.DONE, 0, 3));
        due.is("mark", 1, x.sent(2, Net.MARK, 0, 0));
        due.is("freed", 1, x.freed(2, 0));
        due.is("applied", 2, x.applied(2, 0));
        due.is("balance", 70, x.balance(2, 0));
        due.is("balance", 130, x.balance(2, 1));
    }

    /** "It has a HEAD, which a crash empties: what it has heard, and which paper is ACCEPTED for an instance." */
    private void crashEmptiesTheHead(boolean byFuse) {
        due.part("head");
        Counted x = new Counted(4, 100);
        x.corrupt(3);
        long waiting = Net.paper(0, 101);
        Net.spreadFrom3(x, 1, waiting);
        x.mark(0);
        for (int to = 0; to < 3; to++) {
            x.forge(3, to, Net.head(Net.DONE, 3, 1), waiting);
            x.carry(0, to, Net.MARK, 0, 0);
            headOf(x, to, waiting, 4, 1);
        }
        crash(x, 2, byFuse);
        headOf(x, 2, -1, 0, 0);
        headOf(x, 1, waiting, 4, 1);
        due.is("kept by the papers", 1, x.kept(2));
        x.restart(2);
        headOf(x, 2, -1, 0, 0);
        due.is("three ECHO, three READY and a mark to be heard", 7, x.pending());
        Net.settle(x);
        headOf(x, 2, waiting, 3, 0);
    }

    private void headOf(Counted x, int node, long accepted, int votes, int dones) {
        due.is("accepted at " + node, accepted, x.accepted(node, 3, 1));
        due.is("ECHO heard at " + node, votes, x.heard(node, Net.ECHO, 3, 1));
        due.is("READY heard at " + node, votes, x.heard(node, Net.READY, 3, 1));
        due.is("DONE heard at " + node, dones, x.heard(node, Net.DONE, 3, 1));
        due.is("marks heard at " + node, votes > 0 ? 1 : 0, x.heard(node, Net.MARK, 0, 0));
    }

    /** "INIT about (a, s): the paper that it submitted as its s-th, if it is node a, unless (a, s) is freed at it." */
    private void initIsSentByItsOwnerUntilFreed() {
        due.part("INIT");
        Counted x = new Counted(4, 100);
        for (int s = 1; s <= 3; s++) {
            x.submit(0, 1, s);
            if (s < 3) {
                Net.settle(x);
            }
        }
        for (int s = 1; s <= 3; s++) {
            due.is("before, " + s, Net.paper(1, s), x.sent(0, Net.INIT, 0, s));
        }
        due.is("no fourth", -1, x.sent(0, Net.INIT, 0, 4));
        Net.markAll(x, 4);
        for (int from = 0; from < 3; from++) {
            x.carry(from, 0, Net.MARK, 0, 0);
        }
        due.is("freed", 2, x.freed(0, 0));
        for (int s = 1; s <= 3; s++) {
            due.is("after, " + s, s <= 2 ? -1 : Net.paper(1, s), x.sent(0, Net.INIT, 0, s));
            due.is("carried, " + s, s <= 2 ? EchoPayments.ABSENT : 0, x.carry(0, 2, Net.INIT, 0, s));
            for (int other = 1; other < 4; other++) {
                due.is("another has none, " + s, -1, x.sent(other, Net.INIT, 0, s));
            }
        }
        due.is("ECHO of another, where it is not freed", Net.paper(1, 2), x.sent(1, Net.ECHO, 0, 2));
        due.is("ECHO, where it is freed", -1, x.sent(0, Net.ECHO, 0, 2));
        due.is("READY, where it is freed", -1, x.sent(0, Net.READY, 0, 2));
        due.is("freed at 0, not at 1: ECHO to 0", OLD, x.carry(1, 0, Net.ECHO, 0, 2));
        due.is("freed at 0, not at 1: DONE to 1", REPEATED, x.carry(0, 1, Net.DONE, 0, 2));
    }

    /** "DONE about (a, s): the paper that it applied at (a, s), if it has, freed or not." */
    private void doneIsSentFreedOrNot() {
        due.part("DONE");
        Counted x = new Counted(4, 100);
        x.crash(3);
        x.submit(0, 1, 1);
        Net.settle(x);
        Net.markAll(x, 3);
        Net.settle(x);
        due.is("freed", 1, x.freed(2, 0));
        due.is("DONE", Net.paper(1, 1), x.sent(2, Net.DONE, 0, 1));
        due.is("one not applied", -1, x.sent(2, Net.DONE, 0, 2));
        due.is("not applied at 3", -1, x.sent(3, Net.DONE, 0, 1));
        x.restart(3);
        due.is("the first of those that freed it", 0, x.carry(1, 3, Net.DONE, 0, 1));
        due.is("the second", 1, x.carry(2, 3, Net.DONE, 0, 1));
        due.is("DONE at last", Net.paper(1, 1), x.sent(3, Net.DONE, 0, 1));
    }

    /** "A correct node, up or down, HAS SENT to every node, itself included" */
    private void sentToEveryNodeUpOrDown() {
        due.part("has sent");
        for (int n = 4; n <= 7; n++) {
            Counted x = new Counted(n, 100);
            x.submit(0, 1, 1);
            x.mark(0);
            x.crash(0);
            due.is("from one that is down", 2 * (n - 1), x.pending());
            due.is("INIT", 0, x.carry(0, n - 1, Net.INIT, 0, 1));
            due.is("mark", 0, x.carry(0, n - 1, Net.MARK, 0, 0));
            x.restart(0);
            due.is("INIT to itself", 0, x.carry(0, 0, Net.INIT, 0, 1));
            due.is("mark to itself", 0, x.carry(0, 0, Net.MARK, 0, 0));
            due.is("ECHO of two nodes to all, INIT and mark to the others", 2 * n + 2 * (n - 2), x.pending());
        }
    }

    /** "the first of these that holds is the answer": wherever two hold at once. */
    private void theFirstObjectionIsTheAnswer() {
        due.part("order of the objections");
        Counted x = new Counted(7, 100);
        x.submit(6, 0, 1);
        Net.settle(x);
        Net.markAll(x, 7);
        Net.settle(x);
        x.corrupt(5);
        x.corrupt(6);
        long good = Net.paper(0, 1);
        long bad = Net.paper(6, 1);
        for (int kind = Net.INIT; kind <= Net.DONE; kind++) {
            int freed = Net.head(kind, 6, 1);
            int next = Net.head(kind, 6, 2);
            due.is("malformed, old; kind " + kind, MALFORMED, x.forge(6, 0, freed, bad));
            due.is("old; kind " + kind, OLD, x.forge(6, 0, freed, good));
            due.is("malformed; kind " + kind, MALFORMED, x.forge(6, 0, next, bad));
            due.is("none; kind " + kind, 0, x.forge(6, 0, next, good));
            due.is("malformed, repeated; kind " + kind, MALFORMED, x.forge(6, 0, next, bad));
            due.is("repeated; kind " + kind, REPEATED, x.forge(6, 0, next, good));
        }
        due.is("malformed, stranger, old", MALFORMED, x.forge(5, 0, Net.head(Net.INIT, 6, 1), bad));
        due.is("stranger, old", STRANGER, x.forge(5, 0, Net.head(Net.INIT, 6, 1), good));
        due.is("malformed, stranger, repeated", MALFORMED, x.forge(5, 0, Net.head(Net.INIT, 6, 2), bad));
        due.is("stranger, repeated", STRANGER, x.forge(5, 0, Net.head(Net.INIT, 6, 2), good));
        due.is("malformed, stranger", MALFORMED, x.forge(5, 0, Net.head(Net.INIT, 6, 3), bad));
        due.is("stranger", STRANGER, x.forge(5, 0, Net.head(Net.INIT, 6, 3), good));
    }

    /** "STRANGER: the kind is INIT and y is not a." */
    private void onlyInitKnowsStrangers() {
        due.part("STRANGER");
        Counted x = new Counted(7, 100);
        x.corrupt(3);
        for (int account = 0; account < 7; account++) {
            long paper = Net.paper(account == 1 ? 0 : 1, 1);
            due.is("INIT about " + account, account == 3 ? 0 : STRANGER,
                    x.forge(3, 0, Net.head(Net.INIT, account, 1), paper));
            due.is("ECHO paper about " + account, account == 3 ? paper : -1, x.sent(0, Net.ECHO, account, 1));
            for (int kind = Net.ECHO; kind <= Net.DONE; kind++) {
                due.is("kind " + kind + " about " + account, 0, x.forge(3, 0, Net.head(kind, account, 1), paper));
            }
        }
    }

    /** "OLD: the kind is 0 .. 3, and (a, s) is freed at x." */
    private void oldUpToTheFreedOnes() {
        due.part("OLD");
        for (int kind = Net.INIT; kind <= Net.DONE; kind++) {
            Counted x = new Counted(4, 100);
            x.submit(3, 1, 1);
            x.submit(3, 1, 1);
            Net.settle(x);
            Net.markAll(x, 4);
            Net.settle(x);
            x.corrupt(3);
            due.is("freed", 2, x.freed(0, 3));
            long other = Net.paper(2, 7);
            for (int s = 1; s <= 5; s++) {
                due.is("kind " + kind + ", s " + s, s <= 2 ? OLD : 0, x.forge(3, 0, Net.head(kind, 3, s), other));
            }
            due.is("kind " + kind + ", beyond", MALFORMED, x.forge(3, 0, Net.head(kind, 3, 6), other));
            due.is("kind " + kind + ", before", MALFORMED, x.forge(3, 0, Net.head(kind, 3, 0), other));
            due.is("another account", kind == Net.INIT ? STRANGER : 0, x.forge(3, 0, Net.head(kind, 1, 1), other));
            due.is("a mark is never old", 0, x.forge(3, 0, Net.head(Net.MARK, 0, 0), 0));
            due.is("kept", kind == Net.INIT ? 3 : 4, x.kept(0));
        }
    }

    /** "REPEATED: INIT when x has an ECHO paper for (a, s)" */
    private void initIsRepeatedByAnEchoPaperAlone() {
        due.part("INIT repeated");
        Counted x = new Counted(4, 100);
        x.corrupt(3);
        long paper = Net.paper(1, 1);
        for (int kind = Net.ECHO; kind <= Net.DONE; kind++) {
            x.forge(3, 0, Net.head(kind, 3, 1), paper);
        }
        due.is("not by what is heard", 0, x.forge(3, 0, Net.head(Net.INIT, 3, 1), paper));
        due.is("by the ECHO paper", REPEATED, x.forge(3, 0, Net.head(Net.INIT, 3, 1), paper));
        due.is("with another paper too", REPEATED, x.forge(3, 0, Net.head(Net.INIT, 3, 1), Net.paper(2, 2)));
        due.is("the ECHO paper stays", paper, x.sent(0, Net.ECHO, 3, 1));
        due.is("not that of another instance", 0, x.forge(3, 0, Net.head(Net.INIT, 3, 2), paper));
        due.is("not that of another node", 0, x.forge(3, 1, Net.head(Net.INIT, 3, 1), paper));
        x.crash(0);
        x.restart(0);
        due.is("after a crash too", REPEATED, x.forge(3, 0, Net.head(Net.INIT, 3, 1), paper));

        Counted z = new Counted(4, 100);
        z.crash(3);
        z.submit(0, 1, 10);
        Net.settle(z);
        z.restart(3);
        for (int from = 0; from < 3; from++) {
            z.carry(from, 3, Net.READY, 0, 1);
        }
        due.is("applied", 1, z.applied(3, 0));
        due.is("not by a READY paper, nor by one applied", 0, z.carry(0, 3, Net.INIT, 0, 1));
        due.is("its ECHO", Net.paper(1, 10), z.sent(3, Net.ECHO, 0, 1));
    }

    /** "ECHO, READY, DONE when x has heard that kind about (a, s) from y, with whatever paper" */
    private void heardOncePerKindInstanceAndSender() {
        due.part("heard once");
        for (int kind = Net.ECHO; kind <= Net.DONE; kind++) {
            Counted x = new Counted(7, 100);
            x.corrupt(5);
            x.corrupt(6);
            long paper = Net.paper(1, 1);
            due.is("first", 0, x.forge(6, 0, Net.head(kind, 2, 3), paper));
            due.is("the same", REPEATED, x.forge(6, 0, Net.head(kind, 2, 3), paper));
            due.is("another paper", REPEATED, x.forge(6, 0, Net.head(kind, 2, 3), Net.paper(1, 2)));
            due.is("heard from one", 1, x.heard(0, kind, 2, 3));
            due.is("another sender", 0, x.forge(5, 0, Net.head(kind, 2, 3), paper));
            due.is("heard from two", 2, x.heard(0, kind, 2, 3));
            due.is("another receiver", 0, x.forge(6, 1, Net.head(kind, 2, 3), paper));
            due.is("the seq before", 0, x.forge(6, 0, Net.head(kind, 2, 2), paper));
            due.is("the seq after", 0, x.forge(6, 0, Net.head(kind, 2, 4), paper));
            due.is("the account before", 0, x.forge(6, 0, Net.head(kind, 1, 3), Net.paper(0, 1)));
            due.is("the account after", 0, x.forge(6, 0, Net.head(kind, 3, 3), paper));
            due.is("another kind", 0, x.forge(6, 0, Net.head(kind % 3 + 1, 2, 3), paper));
            due.is("still repeated", REPEATED, x.forge(6, 0, Net.head(kind, 2, 3), paper));
        }
    }

    /** Of two papers from one node the first counts, and the second is not heard: one vote more tips the scale or not. */
    private void repeatedLeavesTheFirstPaper() {
        due.part("the first paper counts");
        long paper = Net.paper(0, 10);
        long other = Net.paper(0, 11);
        for (int kind = Net.ECHO; kind <= Net.DONE; kind++) {
            for (int i = 0; i < 2; i++) {
                boolean rightFirst = i == 0;
                Counted x = behind(4);
                x.corrupt(3);
                int head = Net.head(kind, 1, 1);
                due.is("first", 0, x.forge(3, 0, head, rightFirst ? paper : other));
                due.is("second", REPEATED, x.forge(3, 0, head, rightFirst ? other : paper));
                int more = kind == Net.ECHO ? 2 : 1;
                for (int from = 1; from < more; from++) {
                    x.carry(from, 0, kind, 1, 1);
                }
                boolean applies = rightFirst && kind == Net.DONE;
                due.is("the last, kind " + kind, applies ? 1 : 0, x.carry(more, 0, kind, 1, 1));
                due.is("READY, kind " + kind, rightFirst && kind != Net.DONE ? paper : -1, x.sent(0, Net.READY, 1, 1));
            }
        }
    }

    /** "MARK when the mark last heard from y is p" */
    private void markIsRepeatedByTheLastAlone() {
        due.part("mark repeated");
        Counted x = new Counted(7, 100);
        x.corrupt(5);
        x.corrupt(6);
        int head = Net.head(Net.MARK, 0, 0);
        due.is("first, 0", 0, x.forge(6, 0, head, 0));
        due.is("0 again", REPEATED, x.forge(6, 0, head, 0));
        due.is("1", 0, x.forge(6, 0, head, 1));
        due.is("1 again", REPEATED, x.forge(6, 0, head, 1));
        due.is("0 after 1", 0, x.forge(6, 0, head, 0));
        due.is("0 again", REPEATED, x.forge(6, 0, head, 0));
        due.is("heard from one", 1, x.heard(0, Net.MARK, 0, 0));
        due.is("another sender", 0, x.forge(5, 0, head, 0));
        due.is("another receiver", 0, x.forge(6, 1, head, 0));
        x.crash(0);
        x.restart(0);
        due.is("after a crash", 0, x.forge(6, 0, head, 0));
    }

    /** "x has heard ECHO about (a, s) with p from at least (n + f) / 2 + 1 nodes" */
    private void echoesForOnePaper(int n) {
        due.part("ECHO, " + n + " nodes");
        int quorum = READY_QUORUM_OF_ECHO[n - 4];
        int f = FAULTY[n - 4];
        long paper = Net.paper(1, 10);
        Counted x = new Counted(n, 100);
        x.submit(0, 1, 10);
        x.pump(n);
        for (int y = n - f; y < n; y++) {
            x.corrupt(y);
            x.forge(y, 1, Net.head(Net.ECHO, 0, 1), Net.paper(1, 11));
            x.forge(y, 2, Net.head(Net.ECHO, 0, 1), paper);
            x.forge(y, 1, Net.head(Net.ECHO, 0, 2), paper);
        }
        for (int from = 0; from < n - f; from++) {
            x.carry(from, 1, Net.ECHO, 0, 1);
            due.is("heard", f + from + 1, x.heard(1, Net.ECHO, 0, 1));
            due.is("other papers do not count, " + (from + 1), from + 1 < quorum ? -1 : paper,
                    x.sent(1, Net.READY, 0, 1));
            x.carry(from, 2, Net.ECHO, 0, 1);
            due.is("equal papers do, " + (from + 1), f + from + 1 < quorum ? -1 : paper, x.sent(2, Net.READY, 0, 1));
        }
        due.is("nothing is accepted by ECHO", -1, x.accepted(2, 0, 1));
    }

    /** "x has heard READY about (a, s) with p from at least f + 1 nodes" */
    private void readiesForOnePaper(int n) {
        due.part("READY, " + n + " nodes");
        int f = FAULTY[n - 4];
        long paper = Net.paper(0, 10);
        Counted x = behind(n);
        for (int y = n - f; y < n; y++) {
            x.corrupt(y);
            due.is("a READY for another", 0, x.forge(y, 0, Net.head(Net.READY, 1, 1), Net.paper(0, 11)));
        }
        due.is("f for another", -1, x.sent(0, Net.READY, 1, 1));
        for (int i = 1; i <= f + 1; i++) {
            due.is("before " + i, -1, x.sent(0, Net.READY, 1, 1));
            due.is("READY " + i, 0, x.carry(i, 0, Net.READY, 1, 1));
        }
        due.is("f + 1", paper, x.sent(0, Net.READY, 1, 1));
        due.is("no ECHO", -1, x.sent(0, Net.ECHO, 1, 1));
    }

    /** Node 0 was down when node 1 paid it 10, and is up again: all the others have applied it. */
    private Counted behind(int n) {
        Counted x = new Counted(n, 100);
        x.crash(0);
        x.submit(1, 0, 10);
        Net.settle(x);
        x.restart(0);
        return x;
    }

    /** "x has heard READY about (a, s) with p from at least 2 * f + 1 nodes": 2f for p and f for another do not do. */
    private void acceptedByReady(int n) {
        due.part("accepted by READY, " + n + " nodes");
        int f = FAULTY[n - 4];
        Counted x = behind(n);
        for (int y = n - f; y < n; y++) {
            x.corrupt(y);
            x.forge(y, 0, Net.head(Net.READY, 1, 1), Net.paper(0, 11));
        }
        for (int from = 1; from < n - f; from++) {
            due.is("READY " + from, from == 2 * f + 1 ? 1 : 0, x.carry(from, 0, Net.READY, 1, 1));
            due.is("applied after " + from, from > 2 * f ? 1 : 0, x.applied(0, 1));
        }
        boolean isWanted = n - f - 1 == 2 * f;
        due.is("its own READY", isWanted ? 1 : 0, x.carry(0, 0, Net.READY, 1, 1));
        due.is("applied", 1, x.applied(0, 1));
        due.is("balance", 110, x.balance(0, 0));
    }

    /** "or DONE about (a, s) with p from at least f + 1 nodes" */
    private void acceptedByDone(int n) {
        due.part("accepted by DONE, " + n + " nodes");
        int f = FAULTY[n - 4];
        Counted x = behind(n);
        for (int y = n - f; y < n; y++) {
            x.corrupt(y);
            due.is("DONE of another", 0, x.forge(y, 0, Net.head(Net.DONE, 1, 1), Net.paper(0, 11)));
        }
        for (int from = 1; from <= f + 1; from++) {
            due.is("applied before " + from, 0, x.applied(0, 1));
            due.is("DONE " + from, from == f + 1 ? 1 : 0, x.carry(from, 0, Net.DONE, 1, 1));
        }
        due.is("applied", 1, x.applied(0, 1));
        due.is("no READY by DONE", -1, x.sent(0, Net.READY, 1, 1));
    }

    /** 2f times READY and f times DONE with the same paper: one more of either is wanted. */
    private void readyAndDoneAreNotAddedUp(int n) {
        int f = FAULTY[n - 4];
        for (int last = Net.READY; last <= Net.DONE; last++) {
            due.part("READY and DONE, " + n + " nodes, the last is " + last);
            Counted x = behind(n);
            for (int i = 0; i < 2 * f; i++) {
                due.is("READY", 0, x.carry(1 + i, 0, Net.READY, 1, 1));
            }
            for (int i = 0; i < f; i++) {
                due.is("DONE", 0, x.carry(1 + i, 0, Net.DONE, 1, 1));
            }
            for (int from = 1; from < n; from++) {
                due.is("ECHO", 0, x.carry(from, 0, Net.ECHO, 1, 1));
            }
            due.is("applied", 0, x.applied(0, 1));
            due.is("accepted", -1, x.accepted(0, 1, 1));
            due.is("one more", 1, x.carry(last == Net.READY ? 2 * f + 1 : f + 1, 0, last, 1, 1));
        }
    }

    /** "if x has a mark and the marks last heard from at least 2 * f + 1 nodes are equal to it" */
    private void marksThatAreEqual(int n) {
        due.part("marks, " + n + " nodes");
        int f = FAULTY[n - 4];
        Counted x = new Counted(n, 100);
        x.submit(0, 1, 10);
        Net.settle(x);
        for (int y = n - f; y < n; y++) {
            x.corrupt(y);
            x.forge(y, 0, Net.head(Net.MARK, 0, 0), 1);
        }
        Net.markAll(x, n);
        for (int votes = f + 1; votes <= 2 * f; votes++) {
            due.is("mark " + votes, 0, x.carry(votes - f, 0, Net.MARK, 0, 0));
            due.is("freed by " + votes, 0, x.freed(0, 0));
        }
        due.is("one changes its mark", 0, x.forge(n - 1, 0, Net.head(Net.MARK, 0, 0), 0));
        due.is("2f + 1 are heard, of which 2f are equal", 0, x.carry(f + 1, 0, Net.MARK, 0, 0));
        due.is("not freed", 0, x.freed(0, 0));
        due.is("its READY is still sent", Net.paper(1, 10), x.sent(0, Net.READY, 0, 1));
        due.is("and changes it back", 0, x.forge(n - 1, 0, Net.head(Net.MARK, 0, 0), 1));
        due.is("freed", 1, x.freed(0, 0));
        due.is("its READY is not sent", -1, x.sent(0, Net.READY, 0, 1));
    }

    /** "If s is more than the number of papers of a applied at x" */
    private void appliedIsNotAcceptedAgain() {
        due.part("applied already");
        Counted x = behind(4);
        for (int from = 1; from < 4; from++) {
            due.is("READY", from == 3 ? 1 : 0, x.carry(from, 0, Net.READY, 1, 1));
        }
        for (int from = 0; from < 4; from++) {
            due.is("DONE", 0, x.carry(from, 0, Net.DONE, 1, 1));
            due.is("not accepted again", -1, x.accepted(0, 1, 1));
        }
        due.is("applied once", 1, x.applied(0, 1));
        due.is("paid once", 110, x.balance(0, 0));
        x.crash(0);
        x.restart(0);
        for (int from = 1; from < 4; from++) {
            due.is("DONE in another life", 0, x.carry(from, 0, Net.DONE, 1, 1));
            due.is("READY in another life", 0, x.carry(from, 0, Net.READY, 1, 1));
            due.is("not accepted again", -1, x.accepted(0, 1, 1));
        }
        due.is("paid once", 110, x.balance(0, 0));
    }

    /** Node 0 missed three transfers of node 1; it hears of the third, of the first and of the second. */
    private void laterOnesAreAcceptedAndWait() {
        due.part("in the order of seq");
        Counted x = new Counted(4, 100);
        x.crash(0);
        for (int s = 1; s <= 3; s++) {
            x.submit(1, 0, s);
        }
        Net.settle(x);
        x.restart(0);
        x.carry(1, 0, Net.DONE, 1, 3);
        due.is("the third", 0, x.carry(2, 0, Net.DONE, 1, 3));
        due.is("it waits", Net.paper(0, 3), x.accepted(0, 1, 3));
        x.carry(1, 0, Net.DONE, 1, 1);
        due.is("the first", 1, x.carry(2, 0, Net.DONE, 1, 1));
        due.is("the first is accepted no more", -1, x.accepted(0, 1, 1));
        due.is("the third still waits", Net.paper(0, 3), x.accepted(0, 1, 3));
        due.is("balance", 101, x.balance(0, 0));
        x.carry(1, 0, Net.DONE, 1, 2);
        due.is("the second and the third", 2, x.carry(2, 0, Net.DONE, 1, 2));
        due.is("the third is accepted no more", -1, x.accepted(0, 1, 3));
        due.is("balance", 106, x.balance(0, 0));
        due.is("applied", 3, x.applied(0, 1));
    }

    /** "(there is none when that is 5)" */
    private void fiveAtOnce() {
        due.part("five at once");
        Counted x = new Counted(4, 100);
        x.crash(0);
        for (int s = 1; s <= 5; s++) {
            x.submit(3, 0, s);
        }
        Net.settle(x);
        x.restart(0);
        for (int s = 5; s >= 1; s--) {
            due.is("the first DONE of " + s, 0, x.carry(1, 0, Net.DONE, 3, s));
            due.is("the second DONE of " + s, s == 1 ? 5 : 0, x.carry(2, 0, Net.DONE, 3, s));
            due.is("accepted " + s, s == 1 ? -1 : Net.paper(0, s), x.accepted(0, 3, s));
        }
        due.is("applied", 5, x.applied(0, 3));
        due.is("balance", 115, x.balance(0, 0));
        due.is("balance", 85, x.balance(0, 3));
        for (int s = 1; s <= 5; s++) {
            due.is("none is accepted any more, " + s, -1, x.accepted(0, 3, s));
            due.is("nothing more is applied, " + s, 0, x.carry(3, 0, Net.DONE, 3, s));
        }
    }

    /** All that three nodes ever transfer hangs on one paper, and is applied by one message. */
    private void fifteenAtOnce() {
        due.part("fifteen at once");
        Counted x = new Counted(4, 100);
        x.crash(0);
        x.submit(1, 2, 1);
        Net.settle(x);
        x.submit(2, 3, 1);
        Net.settle(x);
        for (int s = 1; s <= 5; s++) {
            x.submit(3, 1, 1);
            x.submit(2, 3, 1);
            x.submit(1, 2, 1);
        }
        Net.settle(x);
        x.restart(0);
        for (int a = 3; a >= 1; a--) {
            for (int s = 5; s >= (a == 1 ? 2 : 1); s--) {
                due.is("first", 0, x.carry(1, 0, Net.DONE, a, s));
                due.is("second", 0, x.carry(2, 0, Net.DONE, a, s));
            }
        }
        due.is("first", 0, x.carry(1, 0, Net.DONE, 1, 1));
        due.is("all of them", 15, x.carry(2, 0, Net.DONE, 1, 1));
        for (int a = 1; a <= 3; a++) {
            due.is("applied of " + a, 5, x.applied(0, a));
            due.is("balance of " + a, 100, x.balance(0, a));
        }
    }

    /**
     * "for the least such c", looked for anew after each paper: by (3, 1) both (1, 1) and (3, 2) can be applied, and the
     * fuse shows that (1, 1) goes first.
     */
    private void theLeastEachTime() {
        due.part("the least each time");
        int[] appliedOf1 = {0, 0, 0, 1, 1};
        int[] appliedOf3 = {0, 0, 1, 1, 2};
        for (int fuse = 1; fuse <= 4; fuse++) {
            Counted x = new Counted(4, 100);
            x.crash(0);
            x.submit(3, 1, 60);
            Net.settle(x);
            x.submit(1, 2, 160);
            x.submit(3, 2, 10);
            Net.settle(x);
            x.restart(0);
            for (int[] about : new int[][] {{3, 2}, {1, 1}}) {
                x.carry(1, 0, Net.DONE, about[0], about[1]);
                due.is("it waits", 0, x.carry(2, 0, Net.DONE, about[0], about[1]));
            }
            x.carry(1, 0, Net.DONE, 3, 1);
            x.fuse(0, fuse);
            due.is("fuse " + fuse, fuse <= 3 ? EchoPayments.CRASHED : 3, x.carry(2, 0, Net.DONE, 3, 1));
            due.is("of 1 with fuse " + fuse, appliedOf1[fuse], x.applied(0, 1));
            due.is("of 3 with fuse " + fuse, appliedOf3[fuse], x.applied(0, 3));
        }
    }

    /** "and the balance of c at x is at least the amount of q" */
    private void balanceThatJustSuffices() {
        due.part("balance");
        int[][] cases = {{0, 1}, {1, 1}, {1, 2}, {100, 99}, {100, 100}, {100, 101}, {1000, 1000}, {1000, 1001}};
        for (int[] one : cases) {
            Counted x = new Counted(4, one[0]);
            x.corrupt(3);
            Net.spreadInit(x, 4, 3, 1, Net.paper(0, one[1]));
            boolean enough = one[1] <= one[0];
            String what = one[1] + " of " + one[0];
            due.is(what + ": applied", enough ? 1 : 0, x.applied(1, 3));
            due.is(what + ": accepted", enough ? -1 : Net.paper(0, one[1]), x.accepted(1, 3, 1));
            due.is(what + ": balance", enough ? one[0] - one[1] : one[0], x.balance(1, 3));
            due.is(what + ": balance of the payee", enough ? one[0] + one[1] : one[0], x.balance(1, 0));
        }
        Counted x = new Counted(4, 1000);
        x.corrupt(3);
        Net.spreadInit(x, 4, 3, 1, Net.paper(0, 1023));
        x.submit(1, 3, 22);
        Net.settle(x);
        due.is("1022", 0, x.applied(0, 3));
        x.submit(1, 3, 1);
        Net.settle(x);
        due.is("1023", 1, x.applied(0, 3));
        due.is("nothing is left", 0, x.balance(0, 3));
        due.is("the payee has it", 2023, x.balance(0, 0));
    }

    /** "at least NEED(b) papers of b are applied at x for every account b" */
    private void needThatIsJustMet() {
        due.part("NEED");
        for (int t = 1; t <= 5; t++) {
            Counted x = new Counted(4, 100);
            x.corrupt(3);
            long paper = Net.paper(0, 1) + Net.need(1, t);
            Net.spreadInit(x, 4, 3, 1, paper);
            for (int s = 1; s <= 5; s++) {
                due.is("NEED " + t + " with " + (s - 1) + ": applied", s - 1 < t ? 0 : 1, x.applied(2, 3));
                due.is("NEED " + t + " with " + (s - 1) + ": accepted", s - 1 < t ? paper : -1, x.accepted(2, 3, 1));
                x.submit(1, 0, 1);
                Net.settle(x);
            }
            due.is("NEED " + t + " with 5: applied", 1, x.applied(2, 3));
        }
    }

    private void everyNeedMustBeMet() {
        due.part("NEED of many");
        for (int last = 0; last < 6; last++) {
            Counted x = new Counted(7, 100);
            x.corrupt(6);
            long paper = Net.paper(0, 1);
            for (int c = 0; c < 6; c++) {
                paper += Net.need(c, c == last ? 1 : 0);
            }
            for (int c = 0; c < 3; c++) {
                paper += c == last ? 0 : Net.need(c, 1);
                if (c != last) {
                    x.submit(c, 5, 1);
                }
            }
            Net.settle(x);
            Net.spreadInit(x, 7, 6, 1, paper);
            due.is("waits for " + last, paper, x.accepted(3, 6, 1));
            due.is("waits for " + last, 0, x.applied(3, 6));
            x.submit(last, 6, 1);
            Net.settle(x);
            due.is("applied with " + last, 1, x.applied(3, 6));
        }
    }
}
