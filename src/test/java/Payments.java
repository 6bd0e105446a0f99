/** The calls of the class, so that one and the same past can be played on an object and on the model. */
interface Payments {
    int submit(int node, int payee, int amount);

    boolean corrupt(int node);

    int forge(int from, int to, int head, long paper);

    int carry(int from, int to, int kind, int account, int seq);

    int pump(int k);

    int pending();

    boolean crash(int node);

    boolean restart(int node);

    boolean fuse(int node, int k);

    int mark(int node);

    long sent(int node, int kind, int account, int seq);

    int heard(int node, int kind, int account, int seq);

    long accepted(int node, int account, int seq);

    int applied(int node, int account);

    long balance(int node, int account);

    int freed(int node, int account);

    int kept(int node);

    int state(int node);
}
