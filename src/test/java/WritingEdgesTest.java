/** "Terms" on freeing, on writing with the fuse, and on what is pending: each sentence with its boundary. */
public final class WritingEdgesTest {
    private static final int CRASHED = EchoPayments.CRASHED;

    private final Due due = new Due();

    public static void main(String[] args) {
        WritingEdgesTest test = new WritingEdgesTest();
        test.noMarkNoFreeing();
        test.anotherMarkFreesToo();
        test.asManyAsTheMarkSays();
        test.fromMarkToMark();
        for (int n = 4; n <= 7; n++) {
            test.ofAFreedInstanceNothingIsKept(n);
        }
        test.everyWritingBurnsOne();
        test.nothingElseIsAWriting();
        test.nineWritingsOfAllSorts();
        test.noFuseAtFirst();
        test.crashInTheMidstOfMany();
        test.pendingFromCorrectToUp();
        test.pendingIsWhatWouldBeTaken();
        test.due.end();
    }

    /** "if x has a mark": not without one, and "(Nothing is freed by this.)" when it is made */
    private void noMarkNoFreeing() {
        due.part("freeing wants a mark of one's own");
        Counted x = new Counted(4, 100);
        x.submit(0, 1, 10);
        Net.settle(x);
        for (int i = 0; i < 3; i++) {
            x.mark(i);
            x.carry(i, 3, Net.MARK, 0, 0);
        }
        due.is("three equal marks are heard", 3, x.heard(3, Net.MARK, 0, 0));
        due.is("not freed", 0, x.freed(3, 0));
        due.is("mark", 1, x.mark(3));
        due.is("not freed by that", 0, x.freed(3, 0));
        due.is("nor by one that is repeated", EchoPayments.REPEATED, x.carry(0, 3, Net.MARK, 0, 0));
        due.is("not freed", 0, x.freed(3, 0));
        due.is("its own", 0, x.carry(3, 3, Net.MARK, 0, 0));
        due.is("freed", 1, x.freed(3, 0));
        due.is("the others are not", 0, x.freed(0, 0) + x.freed(1, 0) + x.freed(2, 0));
    }

    /** The mark that is taken need not be one of those that are equal. */
    private void anotherMarkFreesToo() {
        due.part("by another mark");
        Counted x = new Counted(5, 100);
        x.submit(0, 1, 10);
        Net.settle(x);
        for (int i = 0; i < 3; i++) {
            x.mark(i);
            x.carry(i, 4, Net.MARK, 0, 0);
        }
        x.mark(4);
        x.corrupt(3);
        due.is("before", 0, x.freed(4, 0));
        due.is("a mark of 0", 0, x.forge(3, 4, Net.head(Net.MARK, 0, 0), 0));
        due.is("after", 1, x.freed(4, 0));
    }

    /** "for every account c of which fewer than the k(c) of that mark are freed at x, k(c) are freed now" */
    private void asManyAsTheMarkSays() {
        due.part("as many as the mark says");
        Counted x = new Counted(4, 100);
        int[] transfers = {5, 0, 2, 1};
        for (int a = 0; a < 4; a++) {
            for (int s = 1; s <= transfers[a]; s++) {
                x.submit(a, (a + 1) % 4, s);
            }
        }
        Net.settle(x);
        Net.markAll(x, 4);
        due.is("the mark", 5 + 2 * 64 + 512, x.sent(2, Net.MARK, 0, 0));
        due.is("kept before", 8, x.kept(2));
        Net.settle(x);
        for (int a = 0; a < 4; a++) {
            due.is("freed of " + a, transfers[a], x.freed(2, a));
            due.is("applied of " + a, transfers[a], x.applied(2, a));
        }
        due.is("kept after", 0, x.kept(2));
        due.is("full, though all are freed", EchoPayments.FULL, x.submit(0, 1, 1));
        due.is("balance", 100 - 15 + 1, x.balance(2, 0));
    }

    private void fromMarkToMark() {
        due.part("from mark to mark");
        Counted x = new Counted(4, 100);
        for (int s = 1; s <= 5; s++) {
            x.submit(0, 1, 1);
            Net.settle(x);
            due.is("kept", 1, x.kept(3));
            due.is("freed before", s - 1, x.freed(3, 0));
            Net.markAll(x, 4);
            Net.settle(x);
            due.is("freed after", s, x.freed(3, 0));
            due.is("kept", 0, x.kept(3));
        }
    }

    /** "Of a freed instance x keeps no ECHO, READY or submitted paper and nothing heard.", but all of the next one. */
    private void ofAFreedInstanceNothingIsKept(int n) {
        due.part("a freed instance, " + n + " nodes");
        int last = (n - 1) / 3 * 2;
        Counted x = new Counted(n, 100);
        x.submit(3, 1, 10);
        x.submit(3, 1, 20);
        Net.settle(x);
        Net.markAll(x, n);
        x.submit(3, 1, 30);
        for (int i = 0; i < 1 + 3 * n; i++) {
            x.pump(n);
        }
        for (int from = 0; from <= last; from++) {
            due.is("mark " + from, 0, x.carry(from, 3, Net.MARK, 0, 0));
            for (int s = 1; s <= 3; s++) {
                boolean isFreed = from == last && s <= 2;
                for (int kind = Net.INIT; kind <= Net.READY; kind++) {
                    due.is("sent " + kind + " of " + s, isFreed ? -1 : Net.paper(1, 10 * s), x.sent(3, kind, 3, s));
                }
                for (int kind = Net.ECHO; kind <= Net.DONE; kind++) {
                    due.is("heard " + kind + " of " + s, isFreed ? 0 : n, x.heard(3, kind, 3, s));
                }
                due.is("DONE of " + s, Net.paper(1, 10 * s), x.sent(3, Net.DONE, 3, s));
            }
            due.is("kept", from == last ? 1 : 3, x.kept(3));
            due.is("marks are heard", from + 1, x.heard(3, Net.MARK, 0, 0));
        }
        due.is("the mark stays", 2 * 512, x.sent(3, Net.MARK, 0, 0));
        due.is("applied are three", 3, x.applied(3, 3));
        due.is("freed are two, as the mark says", 2, x.freed(3, 3));
        due.is("the second is old", EchoPayments.OLD, x.carry(0, 3, Net.READY, 3, 2));
        due.is("the third is not", EchoPayments.REPEATED, x.carry(0, 3, Net.READY, 3, 3));
        due.is("elsewhere it is not freed", 3, x.kept(0));
    }

    /** Scenes in which one call of node 0 leads to one writing, with that call. */
    private static Scene[] scenesBeforeAWriting() {
        return new Scene[] {
            new Scene("submission", 4, 100, x -> { }),
            new Scene("ECHO", 4, 100, x -> x.submit(1, 0, 10)),
            new Scene("READY by ECHO", 4, 100, x -> hears(x, Net.ECHO, 2)),
            new Scene("READY by READY", 4, 100, x -> hears(x, Net.READY, 1)),
            new Scene("applied by READY", 4, 100, x -> hears(x, Net.READY, 2)),
            new Scene("applied by DONE", 4, 100, x -> hears(x, Net.DONE, 1)),
            new Scene("the first mark", 4, 100, x -> { }),
            new Scene("the same mark", 4, 100, x -> x.mark(0)),
            new Scene("another mark", 4, 100, x -> {
                x.mark(0);
                x.submit(0, 1, 10);
                Net.settle(x);
            })
        };
    }

    private static final Call[] WRITINGS = {
        new Call("submit", 0, 1, 1), new Call("carry", 1, 0, Net.INIT, 1, 1), new Call("carry", 3, 0, Net.ECHO, 1, 1),
        new Call("carry", 2, 0, Net.READY, 1, 1), new Call("carry", 3, 0, Net.READY, 1, 1),
        new Call("carry", 2, 0, Net.DONE, 1, 1), new Call("mark", 0), new Call("mark", 0), new Call("mark", 0)
    };

    private static final long[] ANSWERS = {1, 0, 0, 0, 1, 1, 0, 0, 1};

    /** Node 0 was down when node 1 paid it 10; then it hears so many messages of one kind about that, from 1 on. */
    private static void hears(Payments x, int kind, int count) {
        x.crash(0);
        x.submit(1, 0, 10);
        Net.settle(x);
        x.restart(0);
        for (int from = 1; from <= count; from++) {
            x.carry(from, 0, kind, 1, 1);
        }
    }

    /**
     * "every writing lowers it by 1; the writing at which it comes to 0 is not done, and the node CRASHES instead: it is
     * down, its head is empty, its fuse is 0": then all is as if it had been crashed without that call.
     */
    private void everyWritingBurnsOne() {
        Scene[] scenes = scenesBeforeAWriting();
        for (int i = 0; i < scenes.length; i++) {
            due.part(scenes[i].name);
            for (int fuse = 0; fuse <= 9; fuse++) {
                Counted x = scenes[i].object();
                due.is("fuse " + fuse, true, x.fuse(0, fuse));
                due.is(WRITINGS[i] + " with fuse " + fuse, fuse == 1 ? CRASHED : ANSWERS[i], WRITINGS[i].on(x));
                due.is("state with fuse " + fuse, fuse == 1 ? 1 : 0, x.state(0));
                if (fuse != 1) {
                    burnsAfter(x, fuse == 0 ? 0 : fuse - 1);
                }
            }
            crashedInsteadOfWriting(scenes[i], WRITINGS[i]);
        }
    }

    private void burnsAfter(Counted x, int left) {
        for (int i = 1; i <= 10; i++) {
            boolean isLast = i == left;
            due.is("mark " + i + " with " + left + " left", isLast, x.mark(0) == CRASHED);
            if (isLast) {
                due.is("down", 1, x.state(0));
                return;
            }
        }
    }

    private void crashedInsteadOfWriting(Scene scene, Call call) {
        for (int which = 0; which < View.count(4); which++) {
            Counted x = scene.object();
            x.fuse(0, 1);
            call.on(x);
            Counted z = scene.object();
            z.crash(0);
            String unlike = View.of(z, 4, which).unlike(View.of(x, 4, which));
            due.isTrue("all is as after a crash (" + unlike + ")", unlike.isEmpty());
        }
    }

    /** "are one WRITING each; nothing else is" */
    private void nothingElseIsAWriting() {
        Scene[] scenes = {
            new Scene("ECHO below its quorum", 4, 100, x -> hears(x, Net.ECHO, 1)),
            new Scene("READY below its quorum", 4, 100, x -> hears(x, Net.READY, 0)),
            new Scene("DONE below its quorum", 4, 100, x -> hears(x, Net.DONE, 0)),
            new Scene("ECHO when READY is written", 4, 100, x -> hears(x, Net.ECHO, 3)),
            new Scene("ECHO when READY is written, in another life", 4, 100, WritingEdgesTest::hearsEchoAgain),
            new Scene("READY when READY is written and all applied", 4, 100, x -> hears(x, Net.READY, 3)),
            new Scene("DONE when it is applied", 4, 100, x -> hears(x, Net.DONE, 2)),
            new Scene("acceptance of what has to wait", 4, 100, WritingEdgesTest::misses101),
            new Scene("a mark that is heard", 4, 100, x -> x.mark(1)),
            new Scene("freeing", 4, 100, WritingEdgesTest::aboutToFree)
        };
        Call[] calls = {
            new Call("carry", 2, 0, Net.ECHO, 1, 1), new Call("carry", 1, 0, Net.READY, 1, 1),
            new Call("carry", 1, 0, Net.DONE, 1, 1), new Call("carry", 0, 0, Net.READY, 1, 1),
            new Call("carry", 3, 0, Net.ECHO, 1, 1), new Call("carry", 0, 0, Net.READY, 1, 1),
            new Call("carry", 3, 0, Net.DONE, 1, 1), new Call("carry", 2, 0, Net.READY, 3, 1),
            new Call("carry", 1, 0, Net.MARK, 0, 0), new Call("carry", 2, 0, Net.MARK, 0, 0)
        };
        for (int i = 0; i < scenes.length; i++) {
            due.part(scenes[i].name);
            Counted x = scenes[i].object();
            x.fuse(0, 1);
            due.is(calls[i].toString(), 0, calls[i].on(x));
            due.is("state", 0, x.state(0));
            due.is("the fuse is whole", CRASHED, x.mark(0));
        }
        due.part("fuses of others");
        Counted x = new Counted(4, 100);
        x.fuse(0, 1);
        x.mark(1);
        x.submit(2, 1, 5);
        x.carry(2, 3, Net.INIT, 2, 1);
        x.crash(1);
        x.restart(1);
        x.corrupt(3);
        due.is("a refused call", EchoPayments.REFUSED, x.submit(0, 0, 1));
        due.is("a poor call", EchoPayments.POOR, x.submit(0, 1, 101));
        due.is("state", 0, x.state(0));
        due.is("the fuse is whole", CRASHED, x.mark(0));
    }

    /** It wrote READY, crashed, and hears all anew; the third ECHO comes now. */
    private static void hearsEchoAgain(Payments x) {
        hears(x, Net.ECHO, 3);
        x.crash(0);
        x.restart(0);
        x.carry(1, 0, Net.ECHO, 1, 1);
        x.carry(2, 0, Net.ECHO, 1, 1);
    }

    /** Node 0 has heard READY from itself and node 1 of a transfer of the faulty node 3 that wants 101 of 100. */
    private static void misses101(Payments x) {
        x.corrupt(3);
        Net.spreadInit(x, 4, 3, 1, Net.paper(1, 101));
        x.crash(0);
        x.restart(0);
        x.carry(0, 0, Net.READY, 3, 1);
        x.carry(1, 0, Net.READY, 3, 1);
    }

    private static void aboutToFree(Payments x) {
        x.submit(0, 1, 10);
        Net.settle(x);
        Net.markAll(x, 4);
        x.carry(0, 0, Net.MARK, 0, 0);
        x.carry(1, 0, Net.MARK, 0, 0);
    }

    private void nineWritingsOfAllSorts() {
        due.part("nine writings");
        for (int fuse = 1; fuse <= 9; fuse++) {
            Counted x = new Counted(4, 100);
            x.fuse(0, fuse);
            x.submit(0, 1, 1);
            x.submit(0, 1, 2);
            x.submit(1, 0, 3);
            Net.settle(x);
            int writings = 2 + 3 + 3 + 3;
            due.is("state with fuse " + fuse, fuse <= writings ? 1 : 0, x.state(0));
            due.is("submitted", fuse > 2 ? Net.paper(1, 2) : -1, x.sent(0, Net.INIT, 0, 2));
            due.is("ECHO", fuse > 5 ? Net.paper(0, 3) : -1, x.sent(0, Net.ECHO, 1, 1));
            due.is("READY", fuse > 8 ? Net.paper(0, 3) : -1, x.sent(0, Net.READY, 1, 1));
            due.is("applied", 0, x.applied(0, 0));
        }
    }

    /** "A node has a FUSE (0 at first)." */
    private void noFuseAtFirst() {
        due.part("no fuse at first");
        Counted x = new Counted(7, 100);
        for (int i = 0; i < 7; i++) {
            for (int times = 0; times < 30; times++) {
                due.is("mark", 0, x.mark(i));
            }
        }
    }

    /** "nothing more is done in receiving that message (what was written before stays), and the answer is CRASHED" */
    private void crashInTheMidstOfMany() {
        due.part("crash in the midst");
        for (int fuse = 1; fuse <= 6; fuse++) {
            Counted x = new Counted(4, 100);
            x.crash(0);
            for (int s = 1; s <= 5; s++) {
                x.submit(3, 0, s);
            }
            Net.settle(x);
            x.restart(0);
            for (int s = 5; s >= 1; s--) {
                x.carry(1, 0, Net.DONE, 3, s);
                x.fuse(0, fuse);
                if (s > 1) {
                    x.carry(2, 0, Net.DONE, 3, s);
                }
            }
            due.is("fuse " + fuse, fuse <= 5 ? CRASHED : 5, x.carry(2, 0, Net.DONE, 3, 1));
            int done = Math.min(5, fuse - 1);
            due.is("applied with fuse " + fuse, done, x.applied(0, 3));
            due.is("balance with fuse " + fuse, 100 + done * (done + 1) / 2, x.balance(0, 0));
            for (int s = 1; s <= 5; s++) {
                due.is("DONE " + s + " with fuse " + fuse, s <= done ? Net.paper(0, s) : -1, x.sent(0, Net.DONE, 3, s));
                due.is("accepted " + s + " with fuse " + fuse, -1, x.accepted(0, 3, s));
                due.is("heard " + s + " with fuse " + fuse, fuse <= 5 ? 0 : 2, x.heard(0, Net.DONE, 3, s));
            }
            due.is("state with fuse " + fuse, fuse <= 5 ? 1 : 0, x.state(0));
            x.restart(0);
            due.is("the fuse after fuse " + fuse, fuse <= 5, x.mark(0) == done * 512);
        }
    }

    /** "A message is PENDING when a correct node has sent it to a correct node that is up" */
    private void pendingFromCorrectToUp() {
        for (int n = 4; n <= 7; n++) {
            due.part("pending, " + n + " nodes");
            Counted x = new Counted(n, 100);
            due.is("at first", 0, x.pending());
            due.is("nothing to deliver", 0, x.pump(1));
            for (int i = 0; i < n; i++) {
                x.mark(i);
                due.is("marks of " + (i + 1), (i + 1) * n, x.pending());
            }
            x.crash(1);
            due.is("one down", n * (n - 1), x.pending());
            x.corrupt(0);
            due.is("one down, one faulty", (n - 1) * (n - 2), x.pending());
            x.restart(1);
            due.is("one faulty", (n - 1) * (n - 1), x.pending());
            for (int i = 1; i < n; i++) {
                x.crash(i);
                due.is("down, up to " + i, (n - 1) * (n - 1 - i), x.pending());
            }
            due.is("all down: nothing to deliver", 0, x.pump(8));
        }
    }

    /** "which would take it if it received it now" */
    private void pendingIsWhatWouldBeTaken() {
        due.part("pending");
        Counted x = new Counted(4, 100);
        x.submit(0, 1, 10);
        Net.settle(x);
        due.is("all repeated", 0, x.pending());
        x.mark(0);
        due.is("a mark", 4, x.pending());
        Net.settle(x);
        due.is("heard", 0, x.pending());
        x.mark(0);
        due.is("the same mark is repeated", 0, x.pending());
        x.submit(0, 1, 10);
        Net.settle(x);
        x.mark(0);
        due.is("another mark is not", 4, x.pending());
        Net.markAll(x, 3);
        Net.settle(x);
        due.is("freed at 0", 2, x.freed(0, 0));
        due.is("freed at 3", 0, x.freed(3, 0));
        due.is("what is sent about it is old at 0 and repeated at 3", 0, x.pending());
        x.crash(3);
        x.restart(3);
        due.is("ECHO and READY of 3 itself, DONE of all, three marks", 2 + 2 + 2 * 4 + 3, x.pending());
        x.fuse(3, 1);
        due.is("what would crash it too", 15, x.pending());
    }
}
