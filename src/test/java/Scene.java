import java.util.List;
import java.util.function.Consumer;

/** A past of an object, played anew on each. In most of them much is going on, so that a change would show. */
final class Scene {
    final String name;
    final int nodes;
    final int start;
    private final Consumer<Payments> past;

    Scene(String name, int nodes, int start, Consumer<Payments> past) {
        this.name = name;
        this.nodes = nodes;
        this.start = start;
        this.past = past;
    }

    Counted object() {
        Counted x = new Counted(nodes, start);
        past.accept(x);
        return x;
    }

    Model model() {
        Model x = new Model(nodes, start);
        past.accept(x);
        return x;
    }

    static List<Scene> all() {
        return List.of(
                new Scene("new, 4 nodes", 4, 100, x -> { }),
                new Scene("new, 7 nodes", 7, 1000, x -> { }),
                new Scene("busy, 4 nodes", 4, 100, x -> busy(x, 4)),
                new Scene("busy, 5 nodes", 5, 100, x -> busy(x, 5)),
                new Scene("busy, 7 nodes", 7, 100, x -> busy(x, 7)),
                new Scene("spent, 4 nodes", 4, 50, Scene::spent),
                new Scene("freed, 4 nodes", 4, 10, Scene::freed));
    }

    /**
     * (0, 1) and (1, 1) are freed, (0, 2) is applied; the last node is faulty, and its first transfer waits for money;
     * (1, 2) is on its way; a mark is on its way; node 2 is down; nodes 0 and 1 have fuses.
     */
    static void busy(Payments x, int n) {
        int faulty = n - 1;
        x.submit(0, 1, 10);
        x.submit(1, 2, 20);
        Net.settle(x);
        Net.markAll(x, n);
        Net.settle(x);
        x.submit(0, 2, 5);
        Net.settle(x);
        x.corrupt(faulty);
        Net.spreadInit(x, n, faulty, 1, Net.paper(0, 101));
        x.submit(1, 0, 7);
        x.carry(1, 0, Net.INIT, 1, 2);
        x.carry(1, 1, Net.INIT, 1, 2);
        x.carry(0, 1, Net.ECHO, 1, 2);
        x.forge(faulty, 1, Net.head(Net.READY, faulty, 3), Net.paper(0, 3));
        x.forge(faulty, 1, Net.head(Net.DONE, 0, 3), Net.paper(1, 3));
        x.mark(0);
        x.carry(0, 1, Net.MARK, 0, 0);
        x.crash(2);
        x.fuse(0, 5);
        x.fuse(1, 3);
    }

    /** Node 0 has submitted five, of which three are applied; node 1 has nothing left; nodes 2 and 3 have fuses of 1. */
    static void spent(Payments x) {
        for (int s = 1; s <= 3; s++) {
            x.submit(0, 1, s);
        }
        Net.settle(x);
        x.submit(0, 2, 4);
        x.submit(0, 2, 5);
        x.submit(1, 0, 56);
        x.carry(1, 3, Net.INIT, 1, 1);
        x.fuse(2, 1);
        x.fuse(3, 1);
    }

    /** All five transfers of node 3 are freed; then node 1 crashed and missed one of node 2. */
    static void freed(Payments x) {
        for (int s = 1; s <= 5; s++) {
            x.submit(3, 0, 2);
        }
        Net.settle(x);
        Net.markAll(x, 4);
        Net.settle(x);
        x.crash(1);
        x.submit(2, 3, 10);
        Net.settle(x);
        x.restart(1);
        x.corrupt(3);
    }
}
