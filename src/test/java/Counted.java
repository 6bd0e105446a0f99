/** An object of the class that counts its calls: what it answers after 512 of them is free, so no test may ask it. */
final class Counted implements Payments {
    static final int MOST_CALLS = 512;

    private final EchoPayments x;
    private int calls;

    Counted(int nodes, int start) {
        x = new EchoPayments(nodes, start);
    }

    private EchoPayments next() {
        calls++;
        if (calls > MOST_CALLS) {
            throw new IllegalStateException("a test calls one object more than " + MOST_CALLS + " times");
        }
        return x;
    }

    @Override
    public int submit(int node, int payee, int amount) {
        return next().submit(node, payee, amount);
    }

    @Override
    public boolean corrupt(int node) {
        return next().corrupt(node);
    }

    @Override
    public int forge(int from, int to, int head, long paper) {
        return next().forge(from, to, head, paper);
    }

    @Override
    public int carry(int from, int to, int kind, int account, int seq) {
        return next().carry(from, to, kind, account, seq);
    }

    @Override
    public int pump(int k) {
        return next().pump(k);
    }

    @Override
    public int pending() {
        return next().pending();
    }

    @Override
    public boolean crash(int node) {
        return next().crash(node);
    }

    @Override
    public boolean restart(int node) {
        return next().restart(node);
    }

    @Override
    public boolean fuse(int node, int k) {
        return next().fuse(node, k);
    }

    @Override
    public int mark(int node) {
        return next().mark(node);
    }

    @Override
    public long sent(int node, int kind, int account, int seq) {
        return next().sent(node, kind, account, seq);
    }

    @Override
    public int heard(int node, int kind, int account, int seq) {
        return next().heard(node, kind, account, seq);
    }

    @Override
    public long accepted(int node, int account, int seq) {
        return next().accepted(node, account, seq);
    }

    @Override
    public int applied(int node, int account) {
        return next().applied(node, account);
    }

    @Override
    public long balance(int node, int account) {
        return next().balance(node, account);
    }

    @Override
    public int freed(int node, int account) {
        return next().freed(node, account);
    }

    @Override
    public int kept(int node) {
        return next().kept(node);
    }

    @Override
    public int state(int node) {
        return next().state(node);
    }
}
