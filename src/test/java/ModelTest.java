import java.util.List;
import java.util.Map;
import java.util.Random;
import java.util.TreeMap;

/**
 * Runs of up to 512 calls, drawn from a fixed seed, on an object and on the model: every answer must be the same. At the
 * end it asks whether the runs came to every kind of answer, since runs that never get there would prove nothing.
 */
public final class ModelTest {
    private static final int RUNS = 700;
    private static final int CALLS = Counted.MOST_CALLS;

    private final Random random;
    private final Model model;
    private final Counted object;
    private final Due due;
    private final Map<String, Integer> seen;
    /** How often a call of each sort is drawn in this run; the sorts are those of the switch in call(). */
    private final int[] weights;
    private int calls;

    private ModelTest(int run, Due due, Map<String, Integer> seen) {
        random = new Random(run);
        this.due = due;
        this.seen = seen;
        int nodes = run % 10 == 9 ? random.nextInt(20) - 5 : 4 + random.nextInt(4);
        int start = random.nextInt(4) == 0 ? random.nextInt(1400) - 200 : random.nextInt(120);
        model = new Model(nodes, start);
        object = new Counted(nodes, start);
        due.part("run " + run + ", new EchoPayments(" + nodes + ", " + start + ")");
        boolean faults = run % 3 != 0;
        boolean crashes = run % 3 != 1;
        boolean inOrder = run % 4 < 2;
        weights = new int[] {
            10, faults ? 3 : 0, faults ? 15 : 0, 15, inOrder ? 60 : 3, 4, crashes ? 3 : 0, crashes ? 12 : 1,
            crashes ? 6 : 0, inOrder ? 4 : 1, inOrder ? 0 : 20, faults ? 5 : 0, faults ? 12 : 0, 30
        };
    }

    public static void main(String[] args) {
        Due due = new Due();
        Map<String, Integer> seen = new TreeMap<>();
        for (int run = 0; run < RUNS && due.isAllRight(); run++) {
            ModelTest test = new ModelTest(run, due, seen);
            while (test.calls < CALLS && due.isAllRight()) {
                test.call();
            }
        }
        due.part("seen in all runs");
        for (String answer : ("submit 5,submit -1,submit -7,submit -8,submit -9,corrupt 1,corrupt 0,forge 0,forge 1,"
                + "forge 2,forge -1,forge -3,forge -4,forge -5,forge -6,forge -7,carry 0,carry 1,carry 2,carry -1,"
                + "carry -2,carry -5,carry -6,carry -7,pump -1,pump 0,pump 3,pump 8,crash 0,crash 1,restart 0,restart 1,"
                + "fuse 0,fuse 1,mark -1,mark -7,mark 0,sent -1,heard -1,heard 4,heard 7,accepted -1,applied 5,"
                + "applied -1,balance -1,freed -1,freed 0,freed 3,kept -1,kept 0,state -1,state 0,state 1,state 2")
                .split(",")) {
            due.isTrue("some call answered " + answer, seen.getOrDefault(answer, 0) > 0);
        }
        due.isTrue("papers were seen accepted and waiting", seen.getOrDefault("accepted paper", 0) > 20);
        due.end();
    }

    private void same(String name, String arguments, long want, long got) {
        calls++;
        due.is(name + "(" + arguments + ")", want, got);
        seen.merge(name + " " + want, 1, Integer::sum);
        if (name.equals("accepted") && want >= 0) {
            seen.merge("accepted paper", 1, Integer::sum);
        }
    }

    private void same(String name, String arguments, boolean want, boolean got) {
        same(name, arguments, want ? 1 : 0, got ? 1 : 0);
    }

    private int draw() {
        int sum = 0;
        for (int weight : weights) {
            sum += weight;
        }
        int at = random.nextInt(sum);
        for (int i = 0; i < weights.length; i++) {
            at -= weights[i];
            if (at < 0) {
                return i;
            }
        }
        return 0;
    }

    private int node() {
        return random.nextInt(40) == 0 ? wild() : random.nextInt(model.n);
    }

    private int seq() {
        return random.nextInt(40) == 0 ? wild() : 1 + random.nextInt(random.nextInt(4) == 0 ? 5 : 2);
    }

    private int wild() {
        int[] some = {-1, -2, 4, 5, 6, 7, 8, 64, Integer.MIN_VALUE, Integer.MAX_VALUE};
        return some[random.nextInt(some.length)];
    }

    private void call() {
        int a = node();
        int b = node();
        int k = random.nextInt(12) - 1;
        switch (draw()) {
            case 0 -> callSubmit(a, b);
            case 1 -> same("corrupt", "" + a, model.corrupt(a), object.corrupt(a));
            case 2 -> callForge();
            case 3 -> callCarry(a, b);
            case 4 -> callPump(random.nextInt(3) == 0 ? k : 8);
            case 5 -> same("pending", "", model.pending(), object.pending());
            case 6 -> same("crash", "" + a, model.crash(a), object.crash(a));
            case 7 -> same("restart", "" + a, model.restart(a), object.restart(a));
            case 8 -> same("fuse", a + ", " + k, model.fuse(a, k), object.fuse(a, k));
            case 9 -> callMark(a);
            case 10 -> carryAllAboutOne();
            case 11 -> forgeToAll();
            case 12 -> forgeWhatTipsTheScale();
            default -> look(a, b);
        }
    }

    private void callSubmit(int a, int b) {
        int amount = random.nextInt(12) == 0 ? random.nextInt(1200) - 50 : 1 + random.nextInt(60);
        same("submit", a + ", " + b + ", " + amount, model.submit(a, b, amount), object.submit(a, b, amount));
    }

    /** Mostly all nodes that have applied the same mark at once, so that something comes to be freed. */
    private void callMark(int a) {
        if (random.nextInt(3) == 0) {
            same("mark", "" + a, model.mark(a), object.mark(a));
            return;
        }
        for (int i = 0; i < model.n && calls < CALLS; i++) {
            same("mark", "" + i, model.mark(i), object.mark(i));
        }
    }

    private void callPump(int k) {
        same("pump", "" + k, model.pump(k), object.pump(k));
    }

    private void callCarry(int from, int to) {
        int kind = random.nextInt(20) == 0 ? wild() : random.nextInt(5);
        int account = kind == 4 && random.nextInt(10) > 0 ? 0 : node();
        int seq = kind == 4 && random.nextInt(10) > 0 ? 0 : seq();
        String arguments = from + ", " + to + ", " + kind + ", " + account + ", " + seq;
        same("carry", arguments, model.carry(from, to, kind, account, seq), object.carry(from, to, kind, account, seq));
    }

    /** One node hears all that it can about one instance, so that later transfers come to be accepted before earlier. */
    private void carryAllAboutOne() {
        List<int[]> all = model.pendingMessages(Integer.MAX_VALUE);
        if (all.isEmpty()) {
            return;
        }
        int[] one = all.get(random.nextInt(all.size()));
        int to = random.nextInt(4) == 0 ? -1 : one[4];
        for (int[] m : all) {
            if (m[1] == one[1] && m[2] == one[2] && (to == -1 || m[4] == to) && calls < CALLS) {
                same("carry", m[3] + ", " + m[4] + ", " + m[0] + ", " + m[1] + ", " + m[2],
                        model.carry(m[3], m[4], m[0], m[1], m[2]), object.carry(m[3], m[4], m[0], m[1], m[2]));
            }
        }
    }

    private void callForge() {
        int from = faultyNode();
        int to = node();
        int kind = random.nextInt(20) == 0 ? random.nextInt(8) : random.nextInt(5);
        int account = random.nextInt(2) == 0 ? Math.floorMod(from, 8) : random.nextInt(model.n);
        int seq = random.nextInt(40) == 0 ? random.nextInt(20) - 8 : 1 + random.nextInt(random.nextInt(3) == 0 ? 5 : 2);
        if (kind == 4 && random.nextInt(20) > 0) {
            account = 0;
            seq = 0;
        }
        int head = random.nextInt(100) == 0 ? random.nextInt() : kind + 8 * account + 64 * seq;
        forge(from, to, head, kind == 4 ? someMark() : somePaper(account, seq));
    }

    private void forge(int from, int to, int head, long paper) {
        same("forge", from + ", " + to + ", " + head + ", " + paper, model.forge(from, to, head, paper),
                object.forge(from, to, head, paper));
    }

    /** A faulty node spreads a transfer of its own: to some nodes another one, and often one that has to wait. */
    private void forgeToAll() {
        int from = faultyNode();
        int seq = 1 + random.nextInt(3);
        long paper = somePaper(from, seq);
        if (random.nextInt(2) == 0) {
            int c = random.nextInt(model.n);
            paper = paper % 8 + 8L * (1 + random.nextInt(150)) + (c == from ? 0 : 8192L << 3 * c);
        }
        long other = random.nextInt(3) == 0 ? somePaper(from, seq) : paper;
        int firstKind = random.nextInt(3);
        for (int kind = firstKind; kind <= 3; kind++) {
            for (int to = 0; to < model.n && calls < CALLS; to++) {
                forge(from, to, kind + 8 * Math.floorMod(from, 8) + 64 * seq, random.nextInt(4) == 0 ? other : paper);
            }
        }
    }

    /** A faulty node says what is just wanting for a READY paper or for acceptance at some node. */
    private void forgeWhatTipsTheScale() {
        int[] wanted = {0, (model.n + model.f) / 2 + 1, 2 * model.f + 1, model.f + 1};
        int from = faultyNode();
        int skip = random.nextInt(model.n * model.n * 15);
        for (int i = 0; i < model.n * model.n * 15; i++) {
            int at = (i + skip) % (model.n * model.n * 15);
            int to = at / 15 / model.n;
            int account = at / 15 % model.n;
            int seq = at / 3 % 5 + 1;
            int kind = at % 3 + 1;
            for (Long paper : model.peers.get(to).heard[kind][account][seq]) {
                if (paper != null && Model.equal(model.peers.get(to).heard[kind][account][seq], paper) + 1 == wanted[kind]) {
                    forge(from, to, kind + 8 * account + 64 * seq, paper);
                    return;
                }
            }
        }
    }

    private int faultyNode() {
        int first = random.nextInt(model.n);
        for (int i = 0; i < model.n; i++) {
            if (model.state((first + i) % model.n) == 2) {
                return (first + i) % model.n;
            }
        }
        return node();
    }

    private long someMark() {
        long mark = model.sent(node(), 4, 0, 0);
        return random.nextInt(3) > 0 && mark >= 0 ? mark : random.nextInt(600) - 10;
    }

    /** A paper that a correct node has sent, or one of a few that the faulty node might spread, or a damaged one. */
    private long somePaper(int account, int seq) {
        long sent = model.sent(node(), 1 + random.nextInt(3), account, seq);
        int choice = random.nextInt(16);
        if (sent >= 0 && choice < 7) {
            return sent;
        }
        int payee = (Math.floorMod(account, model.n) + 1 + random.nextInt(2)) % model.n;
        long paper = payee + 8L * (1 + 10 * Math.floorMod(seq, 3));
        if (choice == 7) {
            paper += (8192L << 3 * random.nextInt(7)) * random.nextInt(8);
        }
        if (choice == 8) {
            paper ^= 1L << random.nextInt(64);
        }
        return paper;
    }

    /** Papers that wait are few: every node is asked whether it has one there. */
    private void lookAtAccepted(int node, int account, int seq) {
        int at = node;
        for (int i = 0; i < model.n && model.accepted(at, account, seq) < 0; i++) {
            at = i;
        }
        same("accepted", at + ", " + account + ", " + seq, model.accepted(at, account, seq),
                object.accepted(at, account, seq));
    }

    private void look(int a, int b) {
        int seq = seq();
        int kind = random.nextInt(20) == 0 ? wild() : random.nextInt(5);
        boolean aboutMarks = kind == 4 && random.nextInt(10) > 0;
        int account = aboutMarks ? 0 : b;
        int about = aboutMarks ? 0 : seq;
        String four = a + ", " + kind + ", " + account + ", " + about;
        switch (random.nextInt(8)) {
            case 0 -> same("sent", four, model.sent(a, kind, account, about), object.sent(a, kind, account, about));
            case 1 -> same("heard", four, model.heard(a, kind, account, about), object.heard(a, kind, account, about));
            case 2 -> lookAtAccepted(a, b, seq);
            case 3 -> same("applied", a + ", " + b, model.applied(a, b), object.applied(a, b));
            case 4 -> same("balance", a + ", " + b, model.balance(a, b), object.balance(a, b));
            case 5 -> same("freed", a + ", " + b, model.freed(a, b), object.freed(a, b));
            case 6 -> same("kept", "" + a, model.kept(a), object.kept(a));
            default -> same("state", "" + a, model.state(a), object.state(a));
        }
    }
}
