/** Short words for what the tests do again and again. */
final class Net {
    static final int INIT = 0;
    static final int ECHO = 1;
    static final int READY = 2;
    static final int DONE = 3;
    static final int MARK = 4;

    private Net() {
    }

    static long paper(int payee, int amount) {
        return payee + 8L * amount;
    }

    /** To be added to a paper: NEED(account) is t. */
    static long need(int account, int t) {
        return (long) t << 13 + 3 * account;
    }

    /** The second argument of forge. */
    static int head(int kind, int account, int seq) {
        return kind + 8 * account + 64 * seq;
    }

    /** Delivers until nothing is pending; answers how many were received. */
    static int settle(Payments x) {
        int sum = 0;
        int got = x.pump(8);
        while (got > 0) {
            sum += got;
            got = x.pump(8);
        }
        return sum;
    }

    static void markAll(Payments x, int nodes) {
        for (int i = 0; i < nodes; i++) {
            x.mark(i);
        }
    }

    /** The faulty node 3 of four spreads a transfer of its own, all as it should be, to those that are up. */
    static void spreadFrom3(Payments x, int seq, long paper) {
        for (int kind = INIT; kind <= READY; kind++) {
            for (int to = 0; to < 3; to++) {
                x.forge(3, to, head(kind, 3, seq), paper);
            }
            settle(x);
        }
    }

    /** A faulty node sends INIT to all, and the correct ones do the rest, as long as none of them is down. */
    static void spreadInit(Payments x, int nodes, int from, int seq, long paper) {
        for (int to = 0; to < nodes; to++) {
            x.forge(from, to, head(INIT, from, seq), paper);
        }
        settle(x);
    }
}
