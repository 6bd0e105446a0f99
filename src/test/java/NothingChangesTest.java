import java.util.ArrayList;
import java.util.List;

/**
 * "A call with this answer changes nothing; nor does one with the answer ABSENT, MALFORMED, STRANGER, OLD, REPEATED, FULL
 * or POOR.", and the same for the answer false. Each such call is made in one and the same scene; then all that can be
 * seen of the object, now and later, must be as without it.
 */
public final class NothingChangesTest {
    private static final int REFUSED = EchoPayments.REFUSED;
    private static final int ABSENT = EchoPayments.ABSENT;
    private static final int MALFORMED = EchoPayments.MALFORMED;
    private static final int OLD = EchoPayments.OLD;
    private static final int REPEATED = EchoPayments.REPEATED;
    private static final int FALSE = 0;
    private static final int LEAST = Integer.MIN_VALUE;
    private static final int GREATEST = Integer.MAX_VALUE;
    private static final int[] NO_NODES = {LEAST, -1, 4, 7, GREATEST};

    /** The papers that the scene is about: of (1, 2), which needs what (0, 1) paid, and of (3, 2). */
    private static final long SMALL = Net.paper(0, 1) + Net.need(0, 1);
    private static final long FORGED = Net.paper(0, 5);
    private static final long OTHER = Net.paper(2, 9);

    private final Due due = new Due();
    private final Scene scene = new Scene("watched", 4, 100, NothingChangesTest::past);
    private final List<View> before = new ArrayList<>();

    public static void main(String[] args) {
        NothingChangesTest test = new NothingChangesTest();
        for (int which = 0; which < View.count(4); which++) {
            test.before.add(View.of(test.scene.object(), 4, which));
        }
        test.submit();
        test.corrupt();
        test.forgeRefusedOrMalformed();
        test.forgeStrangerOldOrRepeated();
        test.carry();
        test.pumpAndMark();
        test.crashRestartAndFuse();
        test.looks();
        test.due.end();
    }

    /**
     * Freed are (0, 1), (1, 1) and (3, 1); (0, 2) is applied. Node 1 has submitted five. Node 3 is faulty, node 2 is
     * down, nodes 0 and 1 have fuses of 2, and node 0 has heard something of each kind from the faulty node.
     */
    private static void past(Payments x) {
        x.submit(0, 1, 10);
        x.submit(1, 2, 20);
        x.submit(3, 0, 1);
        Net.settle(x);
        Net.markAll(x, 4);
        Net.settle(x);
        x.submit(0, 2, 5);
        Net.settle(x);
        for (int i = 0; i < 4; i++) {
            x.submit(1, 0, 1);
        }
        x.carry(1, 0, Net.INIT, 1, 2);
        x.carry(0, 0, Net.ECHO, 1, 2);
        x.corrupt(3);
        for (int kind = Net.ECHO; kind <= Net.DONE; kind++) {
            x.forge(3, 0, Net.head(kind, 1, 2), SMALL);
        }
        x.forge(3, 0, Net.head(Net.INIT, 3, 2), FORGED);
        x.forge(3, 0, Net.head(Net.MARK, 0, 0), 1);
        x.crash(2);
        x.fuse(0, 2);
        x.fuse(1, 2);
    }

    private void nothing(long want, String name, long... arguments) {
        Call call = new Call(name, arguments);
        for (int which = 0; which < before.size(); which++) {
            Counted x = scene.object();
            due.is(call.toString(), want, call.on(x));
            String unlike = before.get(which).unlike(View.of(x, 4, which));
            due.isTrue(call + " changes nothing (" + unlike + ")", unlike.isEmpty());
        }
    }

    private void submit() {
        due.part("submit");
        for (int wrong : NO_NODES) {
            nothing(REFUSED, "submit", wrong, 1, 1);
            nothing(REFUSED, "submit", 0, wrong, 1);
        }
        for (int wrong : new int[] {LEAST, -1, 0, 1024, GREATEST}) {
            nothing(REFUSED, "submit", 0, 1, wrong);
            nothing(REFUSED, "submit", 1, 0, wrong);
        }
        nothing(REFUSED, "submit", 0, 0, 1);
        nothing(REFUSED, "submit", 2, 0, 1);
        nothing(REFUSED, "submit", 3, 0, 1);
        nothing(EchoPayments.FULL, "submit", 1, 0, 1);
        nothing(EchoPayments.FULL, "submit", 1, 0, 1023);
        nothing(EchoPayments.POOR, "submit", 0, 1, 87);
        nothing(EchoPayments.POOR, "submit", 0, 1, 1023);
    }

    private void corrupt() {
        due.part("corrupt");
        for (int node = 0; node < 4; node++) {
            nothing(FALSE, "corrupt", node);
        }
        for (int wrong : NO_NODES) {
            nothing(FALSE, "corrupt", wrong);
        }
    }

    private void forgeRefusedOrMalformed() {
        due.part("forge");
        int next = Net.head(Net.ECHO, 1, 3);
        for (int wrong : NO_NODES) {
            nothing(REFUSED, "forge", wrong, 0, next, SMALL);
            nothing(REFUSED, "forge", 3, wrong, next, SMALL);
        }
        for (int node = 0; node < 3; node++) {
            nothing(REFUSED, "forge", node, 0, next, SMALL);
        }
        nothing(REFUSED, "forge", 3, 2, next, SMALL);
        nothing(REFUSED, "forge", 3, 2, Net.head(Net.MARK, 0, 0), 2);
        nothing(REFUSED, "forge", 3, 3, next, SMALL);
        for (int kind = Net.INIT; kind <= Net.DONE; kind++) {
            nothing(MALFORMED, "forge", 3, 0, Net.head(kind, 3, 3), Net.paper(3, 1));
            nothing(MALFORMED, "forge", 3, 0, Net.head(kind, 3, 3), -1);
            nothing(MALFORMED, "forge", 3, 0, Net.head(kind, 3, 0), SMALL);
            nothing(MALFORMED, "forge", 3, 0, Net.head(kind, 3, 6), SMALL);
            nothing(MALFORMED, "forge", 3, 0, Net.head(kind, 1, 2), Net.paper(1, 1));
        }
        for (int kind = 5; kind < 8; kind++) {
            nothing(MALFORMED, "forge", 3, 0, Net.head(kind, 3, 3), SMALL);
        }
        nothing(MALFORMED, "forge", 3, 0, Net.head(Net.MARK, 0, 0), 6);
        nothing(MALFORMED, "forge", 3, 0, Net.head(Net.MARK, 0, 0), -1);
        nothing(MALFORMED, "forge", 3, 0, Net.head(Net.MARK, 0, 0), 1L << 12);
        nothing(MALFORMED, "forge", 3, 0, Net.head(Net.MARK, 0, 1), 0);
        nothing(MALFORMED, "forge", 3, 0, LEAST, SMALL);
        nothing(MALFORMED, "forge", 3, 0, GREATEST, SMALL);
    }

    private void forgeStrangerOldOrRepeated() {
        due.part("forge");
        for (int seq = 1; seq <= 5; seq++) {
            nothing(EchoPayments.STRANGER, "forge", 3, 0, Net.head(Net.INIT, 1, seq), SMALL);
        }
        for (int kind = Net.INIT; kind <= Net.DONE; kind++) {
            nothing(OLD, "forge", 3, 0, Net.head(kind, 3, 1), OTHER);
        }
        nothing(REPEATED, "forge", 3, 0, Net.head(Net.INIT, 3, 2), FORGED);
        nothing(REPEATED, "forge", 3, 0, Net.head(Net.INIT, 3, 2), OTHER);
        for (int kind = Net.ECHO; kind <= Net.DONE; kind++) {
            nothing(REPEATED, "forge", 3, 0, Net.head(kind, 1, 2), SMALL);
            nothing(REPEATED, "forge", 3, 0, Net.head(kind, 1, 2), OTHER);
        }
        nothing(REPEATED, "forge", 3, 0, Net.head(Net.MARK, 0, 0), 1);
    }

    private void carry() {
        due.part("carry");
        for (int wrong : NO_NODES) {
            nothing(REFUSED, "carry", wrong, 0, Net.INIT, 1, 3);
            nothing(REFUSED, "carry", 1, wrong, Net.INIT, 1, 3);
        }
        nothing(REFUSED, "carry", 1, 2, Net.INIT, 1, 3);
        nothing(REFUSED, "carry", 1, 3, Net.INIT, 1, 3);
        nothing(REFUSED, "carry", 3, 0, Net.READY, 0, 2);
        for (int seq : new int[] {LEAST, -1, 0, 1, 6, GREATEST}) {
            nothing(ABSENT, "carry", 1, 0, Net.INIT, 1, seq);
        }
        for (int kind : new int[] {LEAST, -1, 1, 2, 3, 4, 5, GREATEST}) {
            nothing(ABSENT, "carry", 1, 0, kind, 1, 3);
        }
        nothing(ABSENT, "carry", 0, 1, Net.INIT, 1, 2);
        nothing(ABSENT, "carry", 1, 0, Net.MARK, 0, 1);
        nothing(OLD, "carry", 1, 0, Net.DONE, 1, 1);
        nothing(OLD, "carry", 2, 0, Net.DONE, 0, 1);
        nothing(REPEATED, "carry", 1, 0, Net.INIT, 1, 2);
        nothing(REPEATED, "carry", 0, 0, Net.ECHO, 1, 2);
        for (int kind = Net.ECHO; kind <= Net.DONE; kind++) {
            nothing(REPEATED, "carry", 2, 1, kind, 0, 2);
        }
        nothing(REPEATED, "carry", 2, 1, Net.MARK, 0, 0);
    }

    private void pumpAndMark() {
        due.part("pump and mark");
        for (int k : new int[] {LEAST, -1, 0, 9, GREATEST}) {
            nothing(REFUSED, "pump", k);
        }
        nothing(REFUSED, "mark", 2);
        nothing(REFUSED, "mark", 3);
        for (int wrong : NO_NODES) {
            nothing(REFUSED, "mark", wrong);
        }
    }

    private void crashRestartAndFuse() {
        due.part("crash, restart and fuse");
        for (int wrong : NO_NODES) {
            nothing(FALSE, "crash", wrong);
            nothing(FALSE, "restart", wrong);
            nothing(FALSE, "fuse", wrong, 1);
        }
        nothing(FALSE, "crash", 2);
        nothing(FALSE, "crash", 3);
        nothing(FALSE, "restart", 0);
        nothing(FALSE, "restart", 1);
        nothing(FALSE, "restart", 3);
        nothing(FALSE, "fuse", 2, 1);
        nothing(FALSE, "fuse", 2, 0);
        nothing(FALSE, "fuse", 3, 1);
        for (int k : new int[] {LEAST, -1, 10, GREATEST}) {
            nothing(FALSE, "fuse", 0, k);
        }
    }

    private void looks() {
        due.part("looks");
        nothing(7 + 1 + 2, "pending");
        nothing(SMALL, "sent", 1, Net.INIT, 1, 2);
        nothing(-1, "sent", 0, Net.READY, 1, 2);
        nothing(-1, "sent", 0, Net.ECHO, 1, 6);
        nothing(2, "heard", 0, Net.ECHO, 1, 2);
        nothing(-1, "heard", 0, Net.INIT, 1, 2);
        nothing(-1, "accepted", 0, 1, 2);
        nothing(2, "applied", 0, 0);
        nothing(-1, "applied", 0, 4);
        nothing(86, "balance", 0, 0);
        nothing(-1, "balance", 3, 0);
        nothing(1, "freed", 0, 0);
        nothing(-1, "freed", 0, -1);
        nothing(3, "kept", 0);
        nothing(-1, "kept", 3);
        nothing(2, "state", 3);
        nothing(-1, "state", 4);
    }
}
