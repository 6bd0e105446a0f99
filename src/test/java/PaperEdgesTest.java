/** "Terms" on what is well formed: each sentence with the last that is allowed and the first that is not. */
public final class PaperEdgesTest {
    private static final int TAKEN = 0;
    private static final int MALFORMED = EchoPayments.MALFORMED;

    private final Due due = new Due();

    public static void main(String[] args) {
        PaperEdgesTest test = new PaperEdgesTest();
        for (int n = 4; n <= 7; n++) {
            for (int owner = 0; owner < n; owner++) {
                for (int kind = Net.INIT; kind <= Net.DONE; kind++) {
                    test.due.part(n + " nodes, kind " + kind + ", account " + owner);
                    test.payeeIsANodeOtherThanTheOwner(n, owner, kind);
                    test.amountIsNotZero(n, owner, kind);
                    test.noNeedIsMoreThanFive(n, owner, kind);
                    test.paperIsWithin34Bits(n, owner, kind);
                    test.seqIsOneToFive(n, owner, kind);
                }
            }
            test.accountIsAnAccount(n);
            test.kindIsOneOfFive(n);
            test.markDigitsAreZeroToFive(n);
            test.markHasNoInstance(n);
        }
        test.extremePapers();
        test.fieldsOfAPaper();
        test.due.end();
    }

    /** What a new object answers when its faulty node sends this to another; if it is not taken, nothing is heard. */
    private void received(String what, long want, int n, int from, int head, long paper) {
        Counted x = new Counted(n, 100);
        int to = (from + 1) % n;
        x.corrupt(from);
        due.is(what, want, x.forge(from, to, head, paper));
        if (want == MALFORMED) {
            due.is(what + ": kept", 0, x.kept(to));
            due.is(what + ": marks heard", 0, x.heard(to, Net.MARK, 0, 0));
            due.is(what + ": pending", 0, x.pending());
        }
    }

    /** "the payee is a node other than a" */
    private void payeeIsANodeOtherThanTheOwner(int n, int owner, int kind) {
        for (int payee = 0; payee < 8; payee++) {
            received("payee " + payee, payee < n && payee != owner ? TAKEN : MALFORMED, n, owner,
                    Net.head(kind, owner, 1), Net.paper(payee, 1));
        }
    }

    /** "the amount is not 0"; 1024 does not fit and would be NEED(0) = 1 with the amount 0. */
    private void amountIsNotZero(int n, int owner, int kind) {
        int payee = owner == 0 ? 1 : 0;
        for (int amount : new int[] {0, 1, 2, 511, 512, 1022, 1023, 1024}) {
            received("amount " + amount, amount == 0 || amount == 1024 ? MALFORMED : TAKEN, n, owner,
                    Net.head(kind, owner, 1), Net.paper(payee, amount));
        }
    }

    /** "no NEED(c) is more than 5, NEED(a) is 0, NEED(c) is 0 for every c >= n" */
    private void noNeedIsMoreThanFive(int n, int owner, int kind) {
        int payee = owner == 0 ? 1 : 0;
        for (int c = 0; c < 7; c++) {
            for (int t = 0; t < 8; t++) {
                boolean allowed = t == 0 || t <= 5 && c < n && c != owner;
                received("NEED(" + c + ") " + t, allowed ? TAKEN : MALFORMED, n, owner, Net.head(kind, owner, 1),
                        Net.paper(payee, 1) + Net.need(c, t));
            }
        }
    }

    /** "and p is 0 .. 2^34 - 1": all else is well formed here, but a bit above the 34 is set, the sign last. */
    private void paperIsWithin34Bits(int n, int owner, int kind) {
        int payee = owner == 0 ? 1 : 0;
        for (int bit = 34; bit < 64; bit++) {
            received("bit " + bit, MALFORMED, n, owner, Net.head(kind, owner, 1), Net.paper(payee, 1) + (1L << bit));
        }
        received("all bits from 34 on", MALFORMED, n, owner, Net.head(kind, owner, 1), Net.paper(payee, 1) | -1L << 34);
    }

    /** "a is an account and s is 1 .. 5"; the s of forge is all that is left of the head, not three bits of it. */
    private void seqIsOneToFive(int n, int owner, int kind) {
        int payee = owner == 0 ? 1 : 0;
        int[] seqs = {-(1 << 25), -63, -8, -7, -4, -1, 0, 1, 5, 6, 7, 8, 9, 13, 17, 65, 1 << 24, (1 << 25) - 1};
        for (int seq : seqs) {
            received("seq " + seq, seq >= 1 && seq <= 5 ? TAKEN : MALFORMED, n, owner, Net.head(kind, owner, seq),
                    Net.paper(payee, 1));
        }
    }

    private void accountIsAnAccount(int n) {
        due.part(n + " nodes");
        for (int kind = Net.ECHO; kind <= Net.DONE; kind++) {
            for (int account = 0; account < 8; account++) {
                received("kind " + kind + ", account " + account, account < n ? TAKEN : MALFORMED, n, 0,
                        Net.head(kind, account, 1), Net.paper(account == 1 ? 0 : 1, 1));
            }
        }
    }

    /** "the kind is none of 0 .. 4" */
    private void kindIsOneOfFive(int n) {
        due.part(n + " nodes");
        for (int kind = 0; kind < 8; kind++) {
            received("kind " + kind + " with a paper", kind < 4 ? TAKEN : MALFORMED, n, 0, Net.head(kind, 0, 1),
                    Net.paper(1, 1));
            received("kind " + kind + " with a mark", kind == 4 ? TAKEN : MALFORMED, n, 0, Net.head(kind, 0, 0), 0);
            received("kind " + kind + " with a mark that could be a paper", kind == 4 ? TAKEN : MALFORMED, n, 0,
                    Net.head(kind, 0, 0), 9);
        }
    }

    /** "A MARK is a sum of k(c) * 8^c over the accounts c, every k(c) being 0 .. 5" */
    private void markDigitsAreZeroToFive(int n) {
        due.part("marks of " + n + " nodes");
        int head = Net.head(Net.MARK, 0, 0);
        for (int c = 0; c <= 20; c++) {
            for (int t = 1; t < 8; t++) {
                received(t + " at " + c, c < n && t <= 5 ? TAKEN : MALFORMED, n, 0, head, (long) t << 3 * c);
            }
        }
        long greatest = 0;
        for (int c = 0; c < n; c++) {
            greatest += 5L << 3 * c;
        }
        received("the greatest mark", TAKEN, n, 0, head, greatest);
        received("one more", MALFORMED, n, 0, head, greatest + 1);
        received("one less", TAKEN, n, 0, head, greatest - 1);
        received("8^n - 1", MALFORMED, n, 0, head, (1L << 3 * n) - 1);
        received("8^n", MALFORMED, n, 0, head, 1L << 3 * n);
        received("0", TAKEN, n, 0, head, 0);
        received("-1", MALFORMED, n, 0, head, -1);
        received("5", TAKEN, n, 0, head, 5);
        received("6", MALFORMED, n, 0, head, 6);
        received("8", TAKEN, n, 0, head, 8);
        received("2^32, which is 0 as an int", MALFORMED, n, 0, head, 1L << 32);
        received("2^63, the sign", MALFORMED, n, 0, head, Long.MIN_VALUE);
        received("the greatest long", MALFORMED, n, 0, head, Long.MAX_VALUE);
    }

    /** "or it is 4, and a or s is not 0" */
    private void markHasNoInstance(int n) {
        due.part("marks of " + n + " nodes");
        for (int account = 0; account < 8; account++) {
            for (int seq : new int[] {-8, -1, 0, 1, 5, 8}) {
                received("about (" + account + ", " + seq + ")", account == 0 && seq == 0 ? TAKEN : MALFORMED, n, 0,
                        Net.head(Net.MARK, account, seq), 0);
            }
        }
    }

    private void extremePapers() {
        due.part("papers");
        for (int kind = Net.INIT; kind <= Net.DONE; kind++) {
            int head = Net.head(kind, 0, 1);
            long needs = Net.need(1, 5) + Net.need(2, 5) + Net.need(3, 5) + Net.need(4, 5) + Net.need(5, 5)
                    + Net.need(6, 5);
            received("the greatest of account 0", TAKEN, 7, 0, head, Net.paper(6, 1023) + needs);
            received("one more", MALFORMED, 7, 0, head, Net.paper(7, 1023) + needs);
            received("the least of account 0", TAKEN, 7, 0, head, 9);
            received("one less", MALFORMED, 7, 0, head, 8);
            received("the least of account 1", TAKEN, 7, 1, Net.head(kind, 1, 1), 8);
            received("one less", MALFORMED, 7, 1, Net.head(kind, 1, 1), 7);
            for (long paper : new long[] {0, -1, (1L << 34) - 1, 1L << 34, Long.MIN_VALUE, Long.MAX_VALUE}) {
                received("paper " + paper, MALFORMED, 7, 0, head, paper);
            }
        }
    }

    /** "its PAYEE is p & 7, its AMOUNT is p >> 3 & 1023, and for c = 0 .. 6 its NEED(c) is p >> (13 + 3 * c) & 7" */
    private void fieldsOfAPaper() {
        due.part("fields");
        for (int c = 0; c < 6; c++) {
            Counted x = new Counted(7, 1000);
            x.submit(c, 6, 1);
            x.submit(c, 6, 22);
            Net.settle(x);
            due.is("submit", 1, x.submit(6, 5, 1023));
            due.is("payee 5, amount 1023, NEED(" + c + ") 2", 5 + 8184 + (2L << 13 + 3 * c), x.sent(6, Net.INIT, 6, 1));
        }
        Counted z = new Counted(7, 1000);
        z.submit(6, 0, 1);
        Net.settle(z);
        z.submit(0, 1, 1);
        due.is("NEED(6) 1", 9 + (1L << 31), z.sent(0, Net.INIT, 0, 1));
    }
}
