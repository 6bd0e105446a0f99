/** What "Terms" says of papers, marks, receiving, freeing, writing and the fuse. */
public final class ReceivingTest {
    private static final int MALFORMED = EchoPayments.MALFORMED;

    private final Due due = new Due();

    public static void main(String[] args) {
        ReceivingTest test = new ReceivingTest();
        for (int nodes = 4; nodes <= 7; nodes++) {
            test.papers(nodes);
            test.marks(nodes);
            test.heads(nodes);
            test.echoQuorum(nodes);
            test.readyQuorums(nodes);
            test.doneQuorum(nodes);
            test.markQuorum(nodes);
        }
        test.largestPaper();
        test.orderOfObjections();
        test.repeatedWithWhateverPaper();
        test.equivocation();
        test.doneMakesNoReady();
        test.waitsForNeed();
        test.leastAccountFirst();
        test.fiveAreAll();
        test.freeing();
        test.noFreeingWithoutOwnMark();
        test.freeingAfterCrash();
        test.freeingNeverTakesBack();
        test.fuseAtEcho();
        test.fuseAtReady();
        test.fuseAtApplied();
        test.fuseIsSpentByWritingsAlone();
        test.due.end();
    }

    /** The last node is faulty and sends INIT about its own account, each time about a new node or instance. */
    private void papers(int n) {
        due.part("papers of " + n + " nodes");
        Counted x = new Counted(n, 100);
        int y = n - 1;
        x.corrupt(y);
        long good = Net.paper(0, 1);
        int head = Net.head(Net.ECHO, y, 1);
        due.is("payee itself", MALFORMED, x.forge(y, 0, head, Net.paper(y, 1)));
        for (int payee = n; payee < 8; payee++) {
            due.is("payee " + payee, MALFORMED, x.forge(y, 0, head, Net.paper(payee, 1)));
        }
        due.is("amount 0", MALFORMED, x.forge(y, 0, head, Net.paper(0, 0)));
        for (int c = 0; c < 7; c++) {
            for (int t = 1; t <= 7; t++) {
                boolean isGood = c < n && c != y && t <= 5;
                if (!isGood) {
                    due.is("NEED(" + c + ") " + t, MALFORMED, x.forge(y, 0, head, good + Net.need(c, t)));
                }
            }
        }
        due.is("too great", MALFORMED, x.forge(y, 0, head, good + (1L << 34)));
        due.is("the sign alone", MALFORMED, x.forge(y, 0, head, good + Long.MIN_VALUE));
        due.is("-1", MALFORMED, x.forge(y, 0, head, -1));
        due.is("0", MALFORMED, x.forge(y, 0, head, 0));
        due.is("nothing was heard", 0, x.heard(0, Net.ECHO, y, 1));
        long needs = 0;
        for (int c = 0; c < y; c++) {
            needs += Net.need(c, 5);
        }
        due.is("the greatest needs", 0, x.forge(y, 0, head, Net.paper(y - 1, 1023) + needs));
        due.is("it was heard", 1, x.heard(0, Net.ECHO, y, 1));
    }

    private void largestPaper() {
        due.part("papers");
        Counted x = new Counted(7, 100);
        x.corrupt(0);
        long paper = Net.paper(6, 1023) + Net.need(6, 5);
        due.is("NEED(6) 5", 0, x.forge(0, 1, Net.head(Net.INIT, 0, 5), paper));
        due.is("its ECHO", paper, x.sent(1, Net.ECHO, 0, 5));
        due.is("NEED(6) 6", MALFORMED, x.forge(0, 1, Net.head(Net.INIT, 0, 4), paper + Net.need(6, 1)));
        due.is("2^34 - 1", MALFORMED, x.forge(0, 1, Net.head(Net.INIT, 0, 4), (1L << 34) - 1));
    }

    private void marks(int n) {
        due.part("marks of " + n + " nodes");
        Counted x = new Counted(n, 100);
        x.corrupt(0);
        int head = Net.head(Net.MARK, 0, 0);
        long power = 1;
        long all = 0;
        for (int c = 0; c < n; c++) {
            due.is("a 6 for " + c, MALFORMED, x.forge(0, 1, head, 6 * power));
            due.is("a 7 for " + c, MALFORMED, x.forge(0, 1, head, 7 * power));
            due.is("a 5 for " + c, 0, x.forge(0, 1, head, 5 * power));
            all += 5 * power;
            power *= 8;
        }
        due.is("one account too many", MALFORMED, x.forge(0, 1, head, power));
        due.is("far too great", MALFORMED, x.forge(0, 1, head, 1L << 40));
        due.is("-1", MALFORMED, x.forge(0, 1, head, -1));
        due.is("the least long", MALFORMED, x.forge(0, 1, head, Long.MIN_VALUE));
        due.is("the greatest mark", 0, x.forge(0, 1, head, all));
        due.is("the same", EchoPayments.REPEATED, x.forge(0, 1, head, all));
        due.is("0", 0, x.forge(0, 1, head, 0));
        due.is("an earlier one, since the last is another", 0, x.forge(0, 1, head, all));
    }

    private void heads(int n) {
        due.part("heads of " + n + " nodes");
        Counted x = new Counted(n, 100);
        x.corrupt(0);
        long paper = Net.paper(1, 1);
        for (int kind = 5; kind < 8; kind++) {
            due.is("kind " + kind, MALFORMED, x.forge(0, 2, Net.head(kind, 0, 1), paper));
            due.is("kind " + kind + " about (0, 0)", MALFORMED, x.forge(0, 2, Net.head(kind, 0, 0), 0));
        }
        for (int kind = 0; kind < 4; kind++) {
            for (int seq : new int[] {-1, 0, 6, 7, 1 << 24, -(1 << 25)}) {
                due.is("kind " + kind + ", seq " + seq, MALFORMED, x.forge(0, 2, Net.head(kind, 0, seq), paper));
            }
            for (int account = n; account < 8; account++) {
                due.is("account " + account, MALFORMED, x.forge(0, 2, Net.head(kind, account, 1), paper));
            }
        }
        due.is("a mark about (1, 0)", MALFORMED, x.forge(0, 2, Net.head(Net.MARK, 1, 0), 0));
        due.is("a mark about (7, 0)", MALFORMED, x.forge(0, 2, Net.head(Net.MARK, 7, 0), 0));
        due.is("a mark about (0, 1)", MALFORMED, x.forge(0, 2, Net.head(Net.MARK, 0, 1), 0));
        due.is("a mark about (0, -1)", MALFORMED, x.forge(0, 2, Net.head(Net.MARK, 0, -1), 0));
        due.is("the least head", MALFORMED, x.forge(0, 2, Integer.MIN_VALUE, paper));
        due.is("the greatest head", MALFORMED, x.forge(0, 2, Integer.MAX_VALUE, paper));
        due.is("nothing was kept", 0, x.kept(2));
        due.is("(0, 5)", 0, x.forge(0, 2, Net.head(Net.INIT, 0, 5), paper));
        due.is("its ECHO", paper, x.sent(2, Net.ECHO, 0, 5));
    }

    private void echoQuorum(int n) {
        due.part("ECHO of " + n + " nodes");
        int[] wanted = {3, 4, 4, 5};
        Counted x = new Counted(n, 100);
        x.submit(0, 1, 10);
        x.pump(n);
        for (int from = 0; from < n; from++) {
            due.is("ECHO from " + from, 0, x.carry(from, n - 1, Net.ECHO, 0, 1));
            due.is("READY after " + (from + 1), from + 1 < wanted[n - 4] ? -1 : Net.paper(1, 10),
                    x.sent(n - 1, Net.READY, 0, 1));
        }
        due.is("ECHO accepts nothing", -1, x.accepted(n - 1, 0, 1));
    }

    private void readyQuorums(int n) {
        due.part("READY of " + n + " nodes");
        int f = (n - 1) / 3;
        Counted x = new Counted(n, 100);
        x.submit(0, 1, 10);
        x.crash(1);
        Net.settle(x);
        x.restart(1);
        int[] senders = new int[n - 1];
        for (int i = 0; i < senders.length; i++) {
            senders[i] = i == 0 ? 0 : i + 1;
        }
        for (int i = 0; i < senders.length; i++) {
            due.is("READY from " + senders[i], i == 2 * f ? 1 : 0, x.carry(senders[i], 1, Net.READY, 0, 1));
            due.is("its own READY after " + (i + 1), i < f ? -1 : Net.paper(1, 10), x.sent(1, Net.READY, 0, 1));
            due.is("applied after " + (i + 1), i < 2 * f ? 0 : 1, x.applied(1, 0));
        }
        due.is("it had no ECHO for that", -1, x.sent(1, Net.ECHO, 0, 1));
        due.is("what is applied is accepted no more", -1, x.accepted(1, 0, 1));
    }

    private void doneQuorum(int n) {
        due.part("DONE of " + n + " nodes");
        int f = (n - 1) / 3;
        Counted x = new Counted(n, 100);
        x.submit(1, 0, 10);
        x.crash(0);
        Net.settle(x);
        x.restart(0);
        for (int from = 1; from <= f + 1; from++) {
            due.is("applied before", 0, x.applied(0, 1));
            due.is("DONE from " + from, from == f + 1 ? 1 : 0, x.carry(from, 0, Net.DONE, 1, 1));
        }
        due.is("applied", 1, x.applied(0, 1));
        due.is("DONE writes no READY", -1, x.sent(0, Net.READY, 1, 1));
        due.is("it sends DONE itself", Net.paper(0, 10), x.sent(0, Net.DONE, 1, 1));
    }

    private void markQuorum(int n) {
        due.part("marks of " + n + " nodes");
        int f = (n - 1) / 3;
        Counted x = new Counted(n, 100);
        x.submit(0, 1, 10);
        Net.settle(x);
        Net.markAll(x, n);
        for (int from = 0; from < n; from++) {
            due.is("mark from " + from, 0, x.carry(from, 1, Net.MARK, 0, 0));
            due.is("freed after " + (from + 1), from < 2 * f ? 0 : 1, x.freed(1, 0));
        }
        Counted z = new Counted(n, 100);
        z.mark(0);
        z.submit(0, 1, 10);
        Net.settle(z);
        for (int from = 1; from < n; from++) {
            z.mark(from);
            z.carry(from, 1, Net.MARK, 0, 0);
            due.is("another mark does not count, after " + (from + 1), from < 2 * f + 1 ? 0 : 1, z.freed(1, 0));
        }
    }

    private void orderOfObjections() {
        due.part("order of the objections");
        Counted x = new Counted(7, 100);
        x.submit(0, 1, 10);
        Net.settle(x);
        Net.markAll(x, 7);
        Net.settle(x);
        x.corrupt(6);
        x.corrupt(0);
        long paper = Net.paper(1, 10);
        due.is("malformed before stranger", MALFORMED, x.forge(6, 1, Net.head(Net.INIT, 0, 1), 0));
        due.is("stranger before old", EchoPayments.STRANGER, x.forge(6, 1, Net.head(Net.INIT, 0, 1), paper));
        due.is("malformed before old", MALFORMED, x.forge(0, 1, Net.head(Net.INIT, 0, 1), 0));
        for (int kind = Net.INIT; kind <= Net.DONE; kind++) {
            due.is("old, kind " + kind, EchoPayments.OLD, x.forge(0, 1, Net.head(kind, 0, 1), Net.paper(2, 3)));
        }
        due.is("not old", 0, x.forge(0, 1, Net.head(Net.INIT, 0, 2), paper));
        due.is("stranger before repeated", EchoPayments.STRANGER, x.forge(6, 1, Net.head(Net.INIT, 0, 2), paper));
        due.is("malformed before repeated", MALFORMED, x.forge(0, 1, Net.head(Net.INIT, 0, 2), 0));
        due.is("repeated", EchoPayments.REPEATED, x.forge(0, 1, Net.head(Net.INIT, 0, 2), Net.paper(2, 3)));
        for (int kind = Net.ECHO; kind <= Net.DONE; kind++) {
            due.is("no stranger, kind " + kind, 0, x.forge(6, 1, Net.head(kind, 0, 2), paper));
        }
    }

    private void repeatedWithWhateverPaper() {
        due.part("repeated");
        Counted x = new Counted(4, 100);
        x.corrupt(3);
        for (int kind = Net.ECHO; kind <= Net.DONE; kind++) {
            int head = Net.head(kind, 0, 1);
            due.is("taken", 0, x.forge(3, 1, head, Net.paper(1, 1)));
            due.is("the same", EchoPayments.REPEATED, x.forge(3, 1, head, Net.paper(1, 1)));
            due.is("another", EchoPayments.REPEATED, x.forge(3, 1, head, Net.paper(2, 1)));
            due.is("another instance", 0, x.forge(3, 1, Net.head(kind, 0, 2), Net.paper(2, 1)));
        }
        x.crash(1);
        x.restart(1);
        due.is("another, in another life", 0, x.forge(3, 1, Net.head(Net.ECHO, 0, 1), Net.paper(2, 1)));
        x.forge(3, 2, Net.head(Net.INIT, 3, 1), Net.paper(0, 1));
        x.crash(2);
        x.restart(2);
        due.is("an ECHO paper outlives a crash", EchoPayments.REPEATED,
                x.forge(3, 2, Net.head(Net.INIT, 3, 1), Net.paper(0, 1)));
    }

    /** Votes for different papers are not added up. */
    private void equivocation() {
        due.part("two papers for one instance");
        Counted x = new Counted(4, 100);
        x.corrupt(3);
        long one = Net.paper(0, 40);
        long two = Net.paper(1, 50);
        x.forge(3, 0, Net.head(Net.INIT, 3, 1), one);
        x.forge(3, 1, Net.head(Net.INIT, 3, 1), two);
        x.forge(3, 2, Net.head(Net.INIT, 3, 1), two);
        Net.settle(x);
        for (int i = 0; i < 3; i++) {
            due.is("no READY", -1, x.sent(i, Net.READY, 3, 1));
            due.is("heard", 3, x.heard(i, Net.ECHO, 3, 1));
        }
        due.is("the third ECHO for two", 0, x.forge(3, 0, Net.head(Net.ECHO, 3, 1), two));
        due.is("READY for two, though its ECHO is one", two, x.sent(0, Net.READY, 3, 1));
        due.is("its ECHO", one, x.sent(0, Net.ECHO, 3, 1));
        x.forge(3, 1, Net.head(Net.READY, 3, 1), one);
        x.carry(0, 1, Net.READY, 3, 1);
        due.is("one READY for each is not two", -1, x.sent(1, Net.READY, 3, 1));
        x.forge(3, 1, Net.head(Net.ECHO, 3, 1), two);
        due.is("READY", two, x.sent(1, Net.READY, 3, 1));
        due.is("one that has READY for two hears READY for it", 0, x.carry(1, 1, Net.READY, 3, 1));
        due.is("two of three", -1, x.accepted(1, 3, 1));
    }

    private void doneMakesNoReady() {
        due.part("DONE");
        Counted x = new Counted(4, 10);
        x.submit(0, 1, 10);
        x.crash(3);
        Net.settle(x);
        x.restart(3);
        for (int from = 0; from < 3; from++) {
            x.carry(from, 3, Net.DONE, 0, 1);
        }
        due.is("three DONE make no READY", -1, x.sent(3, Net.READY, 0, 1));
        due.is("but are applied", 1, x.applied(3, 0));
        x.carry(0, 3, Net.READY, 0, 1);
        x.carry(1, 3, Net.READY, 0, 1);
        due.is("two READY make READY, applied or not", Net.paper(1, 10), x.sent(3, Net.READY, 0, 1));
        due.is("the third", 0, x.carry(2, 3, Net.READY, 0, 1));
        due.is("what is applied is not accepted again", -1, x.accepted(3, 0, 1));
        due.is("nor applied", 1, x.applied(3, 0));
    }

    private void waitsForNeed() {
        due.part("NEED");
        Counted x = new Counted(4, 100);
        x.corrupt(3);
        long paper = Net.paper(0, 10) + Net.need(1, 2);
        Net.spreadFrom3(x, 1, paper);
        due.is("waits", paper, x.accepted(0, 3, 1));
        x.submit(1, 0, 1);
        Net.settle(x);
        due.is("waits for the second", paper, x.accepted(0, 3, 1));
        x.submit(1, 0, 1);
        Net.settle(x);
        due.is("applied", 1, x.applied(0, 3));
        due.is("balance", 112, x.balance(2, 0));
    }

    /** By the first transfer of account 1 all the others can be applied; the fuse shows in which order they are. */
    private void leastAccountFirst() {
        due.part("the least account");
        int[] appliedOf1 = {0, 1, 2, 2};
        for (int fuse = 1; fuse <= 5; fuse++) {
            Counted x = new Counted(4, 100);
            x.crash(0);
            x.submit(1, 2, 10);
            x.submit(1, 3, 10);
            Net.settle(x);
            x.submit(2, 1, 110);
            x.submit(3, 1, 110);
            Net.settle(x);
            x.restart(0);
            for (int[] about : new int[][] {{3, 1}, {2, 1}, {1, 2}}) {
                x.carry(1, 0, Net.DONE, about[0], about[1]);
                due.is("waits", 0, x.carry(2, 0, Net.DONE, about[0], about[1]));
                due.isTrue("is accepted", x.accepted(0, about[0], about[1]) > 0);
            }
            x.carry(1, 0, Net.DONE, 1, 1);
            x.fuse(0, fuse);
            due.is("all at once", fuse <= 4 ? EchoPayments.CRASHED : 4, x.carry(2, 0, Net.DONE, 1, 1));
            due.is("account 1, fuse " + fuse, fuse <= 4 ? appliedOf1[fuse - 1] : 2, x.applied(0, 1));
            due.is("account 2, fuse " + fuse, fuse <= 3 ? 0 : 1, x.applied(0, 2));
            due.is("account 3, fuse " + fuse, fuse <= 4 ? 0 : 1, x.applied(0, 3));
        }
    }

    private void fiveAreAll() {
        due.part("five transfers");
        Counted x = new Counted(4, 100);
        for (int s = 1; s <= 5; s++) {
            x.submit(3, 0, s);
        }
        x.submit(2, 0, 1);
        Net.settle(x);
        for (int i = 0; i < 4; i++) {
            due.is("applied", 5, x.applied(i, 3));
            due.is("applied", 1, x.applied(i, 2));
            due.is("balance", 85, x.balance(i, 3));
            due.is("kept", 6, x.kept(i));
        }
        due.is("mark", 5 * 512 + 64, x.mark(0));
    }

    private void freeing() {
        due.part("freeing");
        Counted x = new Counted(4, 100);
        x.submit(0, 1, 10);
        x.submit(0, 1, 20);
        Net.settle(x);
        Net.markAll(x, 4);
        x.submit(0, 1, 30);
        due.is("one INIT and the marks", 4 + 3 * 16 + 16, Net.settle(x));
        due.is("freed", 2, x.freed(2, 0));
        due.is("kept", 1, x.kept(2));
        for (int s = 1; s <= 2; s++) {
            for (int kind = Net.INIT; kind <= Net.READY; kind++) {
                due.is("not sent", -1, x.sent(0, kind, 0, s));
                due.is("absent", EchoPayments.ABSENT, x.carry(0, 1, kind, 0, s));
            }
            for (int kind = Net.ECHO; kind <= Net.DONE; kind++) {
                due.is("not heard", 0, x.heard(2, kind, 0, s));
            }
            due.is("DONE", Net.paper(1, 10 * s), x.sent(2, Net.DONE, 0, s));
            due.is("old", EchoPayments.OLD, x.carry(2, 1, Net.DONE, 0, s));
        }
        due.is("the third is whole", Net.paper(1, 30), x.sent(0, Net.INIT, 0, 3));
        due.is("the third is heard", 4, x.heard(0, Net.ECHO, 0, 3));
        due.is("nothing is pending", 0, x.pending());
    }

    private void noFreeingWithoutOwnMark() {
        due.part("freeing");
        Counted x = new Counted(4, 100);
        x.submit(0, 1, 10);
        Net.settle(x);
        x.mark(0);
        x.mark(1);
        x.mark(2);
        Net.settle(x);
        due.is("with a mark", 1, x.freed(0, 0));
        due.is("without", 0, x.freed(3, 0));
        x.mark(3);
        due.is("not by the mark alone", 0, x.freed(3, 0));
        x.carry(3, 3, Net.MARK, 0, 0);
        due.is("by the next mark heard", 1, x.freed(3, 0));
        Counted z = new Counted(4, 100);
        z.mark(0);
        z.submit(0, 1, 10);
        Net.settle(z);
        z.mark(1);
        z.mark(2);
        z.mark(3);
        Net.settle(z);
        due.is("its mark is another", 0, z.freed(0, 0));
        due.is("theirs are equal", 1, z.freed(1, 0));
    }

    private void freeingAfterCrash() {
        due.part("freeing");
        Counted x = new Counted(4, 100);
        x.submit(0, 1, 10);
        Net.settle(x);
        Net.markAll(x, 4);
        x.carry(0, 2, Net.MARK, 0, 0);
        x.carry(1, 2, Net.MARK, 0, 0);
        x.crash(2);
        x.restart(2);
        x.carry(2, 2, Net.MARK, 0, 0);
        due.is("marks heard before a crash are gone", 0, x.freed(2, 0));
        x.carry(0, 2, Net.MARK, 0, 0);
        due.is("two of three", 0, x.freed(2, 0));
        x.carry(1, 2, Net.MARK, 0, 0);
        due.is("three", 1, x.freed(2, 0));
        x.crash(2);
        due.is("freed outlives a crash", 1, x.freed(2, 0));
    }

    /** A mark of an earlier day does not take back what a later one has freed. */
    private void freeingNeverTakesBack() {
        due.part("freeing");
        Counted x = new Counted(4, 100);
        x.submit(0, 1, 10);
        Net.settle(x);
        Net.markAll(x, 4);
        Net.settle(x);
        x.submit(0, 1, 20);
        x.submit(2, 1, 20);
        Net.settle(x);
        due.is("kept", 2, x.kept(1));
        Net.markAll(x, 4);
        Net.settle(x);
        due.is("freed", 2, x.freed(1, 0));
        due.is("freed", 1, x.freed(1, 2));
        due.is("kept", 0, x.kept(1));
        Net.markAll(x, 4);
        due.is("equal marks are not pending", 0, x.pending());
    }

    private void fuseAtEcho() {
        due.part("fuse");
        Counted x = new Counted(4, 100);
        x.submit(0, 1, 10);
        x.fuse(2, 1);
        due.is("crashed", EchoPayments.CRASHED, x.carry(0, 2, Net.INIT, 0, 1));
        due.is("down", 1, x.state(2));
        due.is("not written", -1, x.sent(2, Net.ECHO, 0, 1));
        x.restart(2);
        due.is("the fuse is out", 0, x.carry(0, 2, Net.INIT, 0, 1));
        due.is("written", Net.paper(1, 10), x.sent(2, Net.ECHO, 0, 1));
        x.corrupt(3);
        x.fuse(1, 1);
        due.is("forge", 0, x.forge(3, 1, Net.head(Net.ECHO, 3, 1), Net.paper(0, 1)));
        due.is("forge", EchoPayments.CRASHED, x.forge(3, 1, Net.head(Net.INIT, 3, 1), Net.paper(0, 1)));
        due.is("down", 1, x.state(1));
        due.is("its head is empty", 0, x.heard(1, Net.ECHO, 3, 1));
    }

    private void fuseAtReady() {
        due.part("fuse");
        Counted x = new Counted(4, 100);
        x.submit(0, 1, 10);
        x.pump(4);
        x.fuse(3, 1);
        x.carry(0, 3, Net.ECHO, 0, 1);
        x.carry(1, 3, Net.ECHO, 0, 1);
        due.is("crashed", EchoPayments.CRASHED, x.carry(2, 3, Net.ECHO, 0, 1));
        due.is("no READY", -1, x.sent(3, Net.READY, 0, 1));
        due.is("ECHO stays", Net.paper(1, 10), x.sent(3, Net.ECHO, 0, 1));
        due.is("nothing heard", 0, x.heard(3, Net.ECHO, 0, 1));
        x.restart(3);
        Net.settle(x);
        due.is("applied at last", 1, x.applied(3, 0));
    }

    /** By the third READY one that has none of its own would write READY at the second and apply at the third. */
    private void fuseAtApplied() {
        due.part("fuse");
        Counted x = new Counted(4, 100);
        x.submit(0, 1, 10);
        x.crash(3);
        Net.settle(x);
        x.restart(3);
        x.fuse(3, 2);
        x.carry(0, 3, Net.READY, 0, 1);
        due.is("its own READY", 0, x.carry(1, 3, Net.READY, 0, 1));
        due.is("written", Net.paper(1, 10), x.sent(3, Net.READY, 0, 1));
        due.is("crashed", EchoPayments.CRASHED, x.carry(2, 3, Net.READY, 0, 1));
        due.is("not applied", 0, x.applied(3, 0));
        due.is("no DONE", -1, x.sent(3, Net.DONE, 0, 1));
        due.is("not accepted", -1, x.accepted(3, 0, 1));
        due.is("balance", 100, x.balance(3, 1));
        due.is("READY stays", Net.paper(1, 10), x.sent(3, Net.READY, 0, 1));
    }

    private void fuseIsSpentByWritingsAlone() {
        due.part("fuse");
        Counted x = new Counted(4, 100);
        x.corrupt(3);
        x.submit(1, 2, 5);
        x.fuse(0, 2);
        x.submit(0, 0, 1);
        x.submit(0, 1, 500);
        x.forge(3, 0, 7, 0);
        x.forge(3, 0, Net.head(Net.INIT, 1, 1), Net.paper(2, 5));
        x.forge(3, 0, Net.head(Net.ECHO, 1, 1), Net.paper(2, 5));
        x.forge(3, 0, Net.head(Net.ECHO, 1, 1), Net.paper(2, 5));
        x.forge(3, 0, Net.head(Net.MARK, 0, 0), 0);
        x.mark(1);
        x.carry(1, 0, Net.MARK, 0, 0);
        due.is("none of these is a writing", 1, x.submit(0, 1, 1));
        due.is("and this is the second", EchoPayments.CRASHED, x.carry(1, 0, Net.INIT, 1, 1));
        due.is("the submission stays", Net.paper(1, 1), x.sent(0, Net.INIT, 0, 1));
    }
}
