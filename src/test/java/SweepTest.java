import java.util.ArrayList;
import java.util.List;

/**
 * Every argument of every call walks over the edges of its range and far beyond, to the least and the greatest number,
 * while the others stay; this in each scene. The answer must be the model's; after a call of which the document says that
 * it changes nothing all must be as before, and after any other call as at the model.
 */
public final class SweepTest {
    private static final int[] EDGES = {
        Integer.MIN_VALUE, Integer.MIN_VALUE + 1, -1024, -65, -64, -9, -8, -7, -6, -5, -4, -3, -2, -1, 0, 1, 2, 3, 4, 5, 6,
        7, 8, 9, 10, 11, 15, 16, 17, 31, 32, 33, 63, 64, 65, 99, 100, 101, 255, 256, 257, 999, 1000, 1001, 1022, 1023,
        1024, 1025, 65535, 65536, 65537, Integer.MAX_VALUE - 1, Integer.MAX_VALUE
    };
    private static final long[] WIDE_EDGES = {
        Long.MIN_VALUE, Long.MIN_VALUE + 1, Integer.MIN_VALUE, -8, -2, -1, 0, 1, 7, 8, 9, Integer.MAX_VALUE, 1L << 31,
        1L << 32, (1L << 34) - 1, 1L << 34, (1L << 34) + 1, Long.MAX_VALUE - 1, Long.MAX_VALUE
    };
    /** As many calls as an object bears between the longest scene and the longest view. */
    private static final int BATCH = 60;

    private final Due due;
    private final Scene scene;
    private final Model past;
    private final List<View> before = new ArrayList<>();
    private final List<Call> batch = new ArrayList<>();
    private Counted current;
    private int asked;

    private SweepTest(Due due, Scene scene) {
        this.due = due;
        this.scene = scene;
        past = scene.model();
        current = scene.object();
        for (int which = 0; which < View.count(scene.nodes); which++) {
            before.add(View.of(past.copy(), scene.nodes, which));
        }
        due.part(scene.name);
    }

    public static void main(String[] args) {
        Due due = new Due();
        for (Scene scene : Scene.all()) {
            SweepTest test = new SweepTest(due, scene);
            test.sceneIsAsTheModelSays();
            test.sweepCallsOfOneNode();
            test.sweepSubmit();
            test.sweepForge();
            test.sweepForgedHeads();
            test.sweepForgedPapers();
            test.sweepForgedMarks();
            test.sweepCarry();
            test.sweepInstances();
        }
        due.end();
    }

    private void sceneIsAsTheModelSays() {
        for (int which = 0; which < before.size(); which++) {
            String unlike = before.get(which).unlike(View.of(scene.object(), scene.nodes, which));
            due.isTrue("the scene is as at the model (" + unlike + ")", unlike.isEmpty());
        }
    }

    private void sweep(Call call) {
        for (int place = 0; place < call.size(); place++) {
            for (int value : EDGES) {
                check(call.with(place, value));
            }
        }
        if (call.size() == 0) {
            check(call);
        }
    }

    private void check(Call call) {
        Model model = past.copy();
        long want = call.on(model);
        if (!call.leavesAllAsItWas(want)) {
            checkChange(call, want, model);
            return;
        }
        due.is(call.toString(), want, call.on(current));
        batch.add(call);
        if (batch.size() == BATCH) {
            endBatch();
        }
    }

    /** For a call that only looks, when enough of its like have been seen to change nothing. */
    private void ask(Call call) {
        if (asked == BATCH) {
            asked = 0;
            current = scene.object();
        }
        asked++;
        due.is(call.toString(), call.on(past), call.on(current));
    }

    /** After all these calls the object must be as one that has had none of them. */
    private void endBatch() {
        for (int which = 0; which < before.size() && !batch.isEmpty(); which++) {
            Counted x = scene.object();
            for (Call call : batch) {
                call.on(x);
            }
            String unlike = before.get(which).unlike(View.of(x, scene.nodes, which));
            due.isTrue("calls from " + batch.get(0) + " to " + batch.get(batch.size() - 1) + " change nothing ("
                    + unlike + ")", unlike.isEmpty());
        }
        batch.clear();
        current = scene.object();
    }

    /** With more than four nodes only the two that most calls are about are looked at, since the model is slow. */
    private void checkChange(Call call, long want, Model model) {
        int views = scene.nodes == 4 ? before.size() : 2;
        for (int which = 0; which < views; which++) {
            Counted x = scene.object();
            due.is(call.toString(), want, call.on(x));
            String unlike = View.of(model.copy(), scene.nodes, which).unlike(View.of(x, scene.nodes, which));
            due.isTrue("after " + call + " all is as at the model (" + unlike + ")", unlike.isEmpty());
        }
    }

    private void sweepCallsOfOneNode() {
        for (String name : "corrupt,crash,restart,mark,kept,state,pump".split(",")) {
            sweep(new Call(name, 0));
        }
        for (int node : someNodes()) {
            sweep(new Call("fuse", node, 1));
        }
        for (String name : "applied,balance,freed".split(",")) {
            sweep(new Call(name, 1, 0));
            sweep(new Call(name, scene.nodes - 1, 1));
        }
        sweep(new Call("pending"));
    }

    private void sweepSubmit() {
        for (int node : someNodes()) {
            sweep(new Call("submit", node, (node + 1) % scene.nodes, 1));
        }
        for (int amount = 1; amount < 130; amount++) {
            check(new Call("submit", 1, 0, amount));
        }
    }

    /** In a busy scene these are one that is up, one that is down and the faulty one. */
    private int[] someNodes() {
        return new int[] {0, 2, faultyNode()};
    }

    private int faultyNode() {
        return scene.nodes - 1;
    }

    private void sweepForge() {
        sweep(new Call("forge", faultyNode(), 1, Net.head(Net.INIT, faultyNode(), 2), Net.paper(0, 1)));
        sweep(new Call("forge", faultyNode(), 0, Net.head(Net.MARK, 0, 0), 9));
    }

    private void sweepForgedHeads() {
        long paper = Net.paper(1, 3);
        for (int head = -600; head < 600; head++) {
            check(new Call("forge", faultyNode(), 1, head, paper));
        }
        for (int head = 0; head < 512; head++) {
            check(new Call("forge", faultyNode(), 0, head, 0));
        }
    }

    /** A good paper with each of its fields at every value, and with each bit turned. */
    private void sweepForgedPapers() {
        int y = faultyNode();
        long good = Net.paper(0, 1);
        for (int kind = Net.INIT; kind <= Net.DONE; kind++) {
            Call call = new Call("forge", y, 1, Net.head(kind, y, 5), good);
            for (long paper : WIDE_EDGES) {
                check(call.with(3, paper));
            }
            for (int bit = 0; bit < 64; bit++) {
                check(call.with(3, good ^ 1L << bit));
            }
            for (int t = 0; t < 8; t++) {
                check(call.with(3, Net.paper(t, 1)));
                for (int c = 0; c < 7; c++) {
                    check(call.with(3, good + Net.need(c, t)));
                }
            }
        }
    }

    private void sweepForgedMarks() {
        Call call = new Call("forge", faultyNode(), 1, Net.head(Net.MARK, 0, 0), 0);
        for (long mark : WIDE_EDGES) {
            check(call.with(3, mark));
        }
        for (int c = 0; c < 8; c++) {
            for (int t = 1; t < 8; t++) {
                check(call.with(3, (long) t << 3 * c));
            }
        }
        for (int bit = 0; bit < 64; bit++) {
            check(call.with(3, 1L << bit));
        }
    }

    private void sweepCarry() {
        sweep(new Call("carry", 0, 1, Net.INIT, 0, 1));
        sweep(new Call("carry", 1, 0, Net.ECHO, 1, 2));
        sweep(new Call("carry", 0, 1, Net.READY, 0, 2));
        sweep(new Call("carry", 0, 1, Net.DONE, 0, 1));
        sweep(new Call("carry", 0, 0, Net.MARK, 0, 0));
        sweep(new Call("carry", 2, 1, Net.DONE, 2, 1));
    }

    /** Where the numbers of one instance run over, they must not come to mean another. */
    private void sweepInstances() {
        for (int node = 0; node < 2; node++) {
            sweep(new Call("sent", node, Net.INIT, node, 2));
            sweep(new Call("sent", node, Net.MARK, 0, 0));
            sweep(new Call("heard", node, Net.ECHO, 0, 2));
            sweep(new Call("heard", node, Net.MARK, 0, 0));
            sweep(new Call("accepted", node, faultyNode(), 1));
        }
        endBatch();
        for (int node = 0; node < 2; node++) {
            for (int account = -2; account < 9; account++) {
                for (int seq = -6; seq < 13; seq++) {
                    ask(new Call("accepted", node, account, seq));
                    for (int kind = -1; kind <= 5; kind++) {
                        ask(new Call("sent", node, kind, account, seq));
                        ask(new Call("heard", node, kind, account, seq));
                    }
                }
            }
        }
    }
}
