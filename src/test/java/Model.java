import java.util.ArrayList;
import java.util.List;

/**
 * The document once more, sentence by sentence and without a thought for speed, for comparison with the class. It shares
 * no code with it and holds its state otherwise: what is absent is null, and what can be worked out is not stored.
 */
final class Model implements Payments {
    static final int REFUSED = -1;
    static final int ABSENT = -2;
    static final int MALFORMED = -3;
    static final int STRANGER = -4;
    static final int OLD = -5;
    static final int REPEATED = -6;
    static final int CRASHED = -7;
    static final int FULL = -8;
    static final int POOR = -9;

    final int n;
    final int f;
    final long start;
    final List<Peer> peers = new ArrayList<>();

    /** Thrown through receiving when a fuse has come to 0. */
    private static final class Crash extends RuntimeException {
        private static final long serialVersionUID = 1;

        Crash() {
            super(null, null, false, false);
        }
    }

    final class Peer {
        final int id;
        boolean faulty;
        boolean up = true;
        int fuse;
        List<Long> submitted = new ArrayList<>();
        Long[][] echo = new Long[n][6];
        Long[][] ready = new Long[n][6];
        List<List<Long>> applied = new ArrayList<>();
        Long mark;
        int[] freed = new int[n];
        Long[][][][] heard;
        Long[] marks;
        Long[][] accepted;

        Peer(int id) {
            this.id = id;
            for (int a = 0; a < n; a++) {
                applied.add(new ArrayList<>());
            }
            emptyHead();
        }

        /** Rows within rows are copied too, since the model changes them in place. */
        void become(Peer other) {
            faulty = other.faulty;
            up = other.up;
            fuse = other.fuse;
            submitted = new ArrayList<>(other.submitted);
            mark = other.mark;
            freed = other.freed.clone();
            marks = other.marks.clone();
            for (int a = 0; a < n; a++) {
                applied.set(a, new ArrayList<>(other.applied.get(a)));
                echo[a] = other.echo[a].clone();
                ready[a] = other.ready[a].clone();
                accepted[a] = other.accepted[a].clone();
                for (int s = 0; s <= 5; s++) {
                    for (int kind = 0; kind < 4; kind++) {
                        heard[kind][a][s] = other.heard[kind][a][s].clone();
                    }
                }
            }
        }

        void emptyHead() {
            heard = new Long[4][n][6][n];
            marks = new Long[n];
            accepted = new Long[n][6];
        }

        void down() {
            up = false;
            emptyHead();
            fuse = 0;
        }

        void burn() {
            if (fuse == 0) {
                return;
            }
            fuse--;
            if (fuse == 0) {
                down();
                throw new Crash();
            }
        }

        boolean isFreed(int a, int s) {
            return s <= freed[a];
        }

        long balance(int account) {
            long sum = start;
            for (int a = 0; a < n; a++) {
                for (long p : applied.get(a)) {
                    sum -= a == account ? amount(p) : 0;
                    sum += payee(p) == account ? amount(p) : 0;
                }
            }
            return sum;
        }

        Long sent(int kind, int a, int s) {
            if (kind == 4) {
                return a == 0 && s == 0 ? mark : null;
            }
            if (a < 0 || a >= n || s < 1 || s > 5) {
                return null;
            }
            switch (kind) {
                case 0: return id == a && s <= submitted.size() && !isFreed(a, s) ? submitted.get(s - 1) : null;
                case 1: return isFreed(a, s) ? null : echo[a][s];
                case 2: return isFreed(a, s) ? null : ready[a][s];
                case 3: return s <= applied.get(a).size() ? applied.get(a).get(s - 1) : null;
                default: return null;
            }
        }

        int objection(int kind, int a, int s, long p, int y) {
            if (kind < 0 || kind > 4) {
                return MALFORMED;
            }
            if (kind == 4) {
                if (a != 0 || s != 0 || !isMark(p)) {
                    return MALFORMED;
                }
                return marks[y] != null && marks[y] == p ? REPEATED : 0;
            }
            if (!isWellFormed(p, a, s)) {
                return MALFORMED;
            }
            if (kind == 0 && y != a) {
                return STRANGER;
            }
            if (isFreed(a, s)) {
                return OLD;
            }
            boolean repeated = kind == 0 ? echo[a][s] != null : heard[kind][a][s][y] != null;
            return repeated ? REPEATED : 0;
        }

        int receive(int kind, int a, int s, long p, int y) {
            int objection = objection(kind, a, s, p, y);
            if (objection != 0) {
                return objection;
            }
            try {
                return take(kind, a, s, p, y);
            } catch (Crash crash) {
                return CRASHED;
            }
        }

        int take(int kind, int a, int s, long p, int y) {
            if (kind == 0) {
                burn();
                echo[a][s] = p;
                return 0;
            }
            if (kind == 4) {
                marks[y] = p;
                if (mark != null && equal(marks, mark) >= 2 * f + 1) {
                    free();
                }
                return 0;
            }
            heard[kind][a][s][y] = p;
            boolean enoughEcho = kind == 1 && equal(heard[1][a][s], p) >= (n + f) / 2 + 1;
            boolean enoughReady = kind == 2 && equal(heard[2][a][s], p) >= f + 1;
            if (ready[a][s] == null && (enoughEcho || enoughReady)) {
                burn();
                ready[a][s] = p;
            }
            if (s > applied.get(a).size() && accepted[a][s] == null
                    && (equal(heard[2][a][s], p) >= 2 * f + 1 || equal(heard[3][a][s], p) >= f + 1)) {
                accepted[a][s] = p;
            }
            int count = 0;
            while (applyOne()) {
                count++;
            }
            return count;
        }

        boolean applyOne() {
            for (int c = 0; c < n; c++) {
                int t = applied.get(c).size() + 1;
                if (t <= 5 && accepted[c][t] != null && isValid(c, accepted[c][t])) {
                    burn();
                    applied.get(c).add(accepted[c][t]);
                    accepted[c][t] = null;
                    return true;
                }
            }
            return false;
        }

        boolean isValid(int c, long q) {
            for (int b = 0; b < n; b++) {
                if (applied.get(b).size() < need(q, b)) {
                    return false;
                }
            }
            return balance(c) >= amount(q);
        }

        void free() {
            for (int c = 0; c < n; c++) {
                freed[c] = Math.max(freed[c], (int) (mark / power(c) % 8));
                for (int s = 1; s <= freed[c]; s++) {
                    echo[c][s] = null;
                    ready[c][s] = null;
                    for (int kind = 1; kind <= 3; kind++) {
                        heard[kind][c][s] = new Long[n];
                    }
                }
            }
        }

        boolean keeps(int a, int s) {
            return echo[a][s] != null || ready[a][s] != null
                    || known(heard[1][a][s]) + known(heard[2][a][s]) + known(heard[3][a][s]) > 0;
        }
    }

    Model(int nodes, int start) {
        n = nodes < 4 ? 4 : nodes > 7 ? 7 : nodes;
        f = (n - 1) / 3;
        this.start = start < 0 ? 0 : start > 1000 ? 1000 : start;
        for (int i = 0; i < n; i++) {
            peers.add(new Peer(i));
        }
    }

    /** Another model with the same state. */
    Model copy() {
        Model other = new Model(n, (int) start);
        for (int i = 0; i < n; i++) {
            other.peers.get(i).become(peers.get(i));
        }
        return other;
    }

    static int payee(long p) {
        return (int) (p % 8);
    }

    static int amount(long p) {
        return (int) (p / 8 % 1024);
    }

    static int need(long p, int c) {
        return (int) (p / 8192 / power(c) % 8);
    }

    static long power(int c) {
        long result = 1;
        for (int i = 0; i < c; i++) {
            result *= 8;
        }
        return result;
    }

    boolean isWellFormed(long p, int a, int s) {
        if (a < 0 || a >= n || s < 1 || s > 5 || p < 0 || p > 17179869183L) {
            return false;
        }
        for (int c = 0; c < 7; c++) {
            if (need(p, c) > 5 || c >= n && need(p, c) != 0) {
                return false;
            }
        }
        return payee(p) < n && payee(p) != a && amount(p) != 0 && need(p, a) == 0;
    }

    boolean isMark(long p) {
        if (p < 0) {
            return false;
        }
        long rest = p;
        for (int c = 0; c < n; c++) {
            if (rest % 8 > 5) {
                return false;
            }
            rest /= 8;
        }
        return rest == 0;
    }

    static int equal(Long[] row, long p) {
        int count = 0;
        for (Long one : row) {
            count += one != null && one == p ? 1 : 0;
        }
        return count;
    }

    static int known(Long[] row) {
        int count = 0;
        for (Long one : row) {
            count += one != null ? 1 : 0;
        }
        return count;
    }

    boolean isNode(int node) {
        return node >= 0 && node < n;
    }

    boolean isCorrect(int node) {
        return isNode(node) && !peers.get(node).faulty;
    }

    boolean isUp(int node) {
        return isCorrect(node) && peers.get(node).up;
    }

    boolean isInstance(int a, int s) {
        return isNode(a) && s >= 1 && s <= 5;
    }

    @Override
    public int submit(int node, int payee, int amount) {
        if (!isUp(node) || !isNode(payee) || payee == node || amount < 1 || amount > 1023) {
            return REFUSED;
        }
        Peer x = peers.get(node);
        if (x.submitted.size() == 5) {
            return FULL;
        }
        long left = x.balance(node);
        for (int s = x.applied.get(node).size() + 1; s <= x.submitted.size(); s++) {
            left -= amount(x.submitted.get(s - 1));
        }
        if (left < amount) {
            return POOR;
        }
        long p = payee + 8L * amount;
        for (int c = 0; c < n; c++) {
            int last = 0;
            for (int t = 1; t <= x.applied.get(c).size(); t++) {
                last = c != node && payee(x.applied.get(c).get(t - 1)) == node ? t : last;
            }
            p += last * 8192 * power(c);
        }
        try {
            x.burn();
        } catch (Crash crash) {
            return CRASHED;
        }
        x.submitted.add(p);
        return x.submitted.size();
    }

    @Override
    public boolean corrupt(int node) {
        int faulty = 0;
        for (Peer peer : peers) {
            faulty += peer.faulty ? 1 : 0;
        }
        if (!isCorrect(node) || faulty == f) {
            return false;
        }
        peers.get(node).faulty = true;
        return true;
    }

    @Override
    public int forge(int from, int to, int head, long paper) {
        if (!isNode(from) || isCorrect(from) || !isUp(to)) {
            return REFUSED;
        }
        return peers.get(to).receive(Math.floorMod(head, 8), Math.floorMod(Math.floorDiv(head, 8), 8),
                Math.floorDiv(head, 64), paper, from);
    }

    @Override
    public int carry(int from, int to, int kind, int account, int seq) {
        if (!isCorrect(from) || !isUp(to)) {
            return REFUSED;
        }
        Long p = peers.get(from).sent(kind, account, seq);
        return p == null ? ABSENT : peers.get(to).receive(kind, account, seq, p, from);
    }

    @Override
    public int pump(int k) {
        if (k < 1 || k > 8) {
            return REFUSED;
        }
        int count = 0;
        while (count < k) {
            List<int[]> first = pendingMessages(1);
            if (first.isEmpty()) {
                break;
            }
            int[] m = first.get(0);
            peers.get(m[4]).receive(m[0], m[1], m[2], peers.get(m[3]).sent(m[0], m[1], m[2]), m[3]);
            count++;
        }
        return count;
    }

    @Override
    public int pending() {
        return pendingMessages(Integer.MAX_VALUE).size();
    }

    /** The first ones in the order of pump, each as kind, account, seq, sender, receiver. */
    List<int[]> pendingMessages(int limit) {
        List<int[]> found = new ArrayList<>();
        for (int kind = 0; kind <= 4; kind++) {
            for (int a = 0; a < (kind == 4 ? 1 : n); a++) {
                for (int s = kind == 4 ? 0 : 1; s <= (kind == 4 ? 0 : 5); s++) {
                    for (int from = 0; from < n; from++) {
                        addPending(found, limit, kind, a, s, from);
                    }
                    if (found.size() >= limit) {
                        return found;
                    }
                }
            }
        }
        return found;
    }

    private void addPending(List<int[]> found, int limit, int kind, int a, int s, int from) {
        Long p = isCorrect(from) ? peers.get(from).sent(kind, a, s) : null;
        for (int to = 0; p != null && to < n && found.size() < limit; to++) {
            if (isUp(to) && peers.get(to).objection(kind, a, s, p, from) == 0) {
                found.add(new int[] {kind, a, s, from, to});
            }
        }
    }

    @Override
    public boolean crash(int node) {
        if (!isUp(node)) {
            return false;
        }
        peers.get(node).down();
        return true;
    }

    @Override
    public boolean restart(int node) {
        if (!isCorrect(node) || peers.get(node).up) {
            return false;
        }
        peers.get(node).up = true;
        return true;
    }

    @Override
    public boolean fuse(int node, int k) {
        if (!isUp(node) || k < 0 || k > 9) {
            return false;
        }
        peers.get(node).fuse = k;
        return true;
    }

    @Override
    public int mark(int node) {
        if (!isUp(node)) {
            return REFUSED;
        }
        Peer x = peers.get(node);
        try {
            x.burn();
        } catch (Crash crash) {
            return CRASHED;
        }
        long sum = 0;
        for (int c = 0; c < n; c++) {
            sum += x.applied.get(c).size() * power(c);
        }
        x.mark = sum;
        return (int) sum;
    }

    @Override
    public long sent(int node, int kind, int account, int seq) {
        Long p = isCorrect(node) ? peers.get(node).sent(kind, account, seq) : null;
        return p == null ? -1 : p;
    }

    @Override
    public int heard(int node, int kind, int account, int seq) {
        if (!isCorrect(node)) {
            return -1;
        }
        if (kind == 4) {
            return account == 0 && seq == 0 ? known(peers.get(node).marks) : -1;
        }
        return kind >= 1 && kind <= 3 && isInstance(account, seq) ? known(peers.get(node).heard[kind][account][seq]) : -1;
    }

    @Override
    public long accepted(int node, int account, int seq) {
        Long p = isCorrect(node) && isInstance(account, seq) ? peers.get(node).accepted[account][seq] : null;
        return p == null ? -1 : p;
    }

    @Override
    public int applied(int node, int account) {
        return isCorrect(node) && isNode(account) ? peers.get(node).applied.get(account).size() : -1;
    }

    @Override
    public long balance(int node, int account) {
        return isCorrect(node) && isNode(account) ? peers.get(node).balance(account) : -1;
    }

    @Override
    public int freed(int node, int account) {
        return isCorrect(node) && isNode(account) ? peers.get(node).freed[account] : -1;
    }

    @Override
    public int kept(int node) {
        if (!isCorrect(node)) {
            return -1;
        }
        int count = 0;
        for (int a = 0; a < n; a++) {
            for (int s = 1; s <= 5; s++) {
                count += peers.get(node).keeps(a, s) ? 1 : 0;
            }
        }
        return count;
    }

    @Override
    public int state(int node) {
        return !isNode(node) ? -1 : peers.get(node).faulty ? 2 : peers.get(node).up ? 0 : 1;
    }
}
