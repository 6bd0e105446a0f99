import java.util.ArrayList;
import java.util.List;

/**
 * Ways to look at an object, each a row of answers. There is one for each node and some that go on with the object, since
 * a fuse or what is submitted shows only so; each wants an object of its own.
 */
final class View {
    private final String name;
    private final int n;
    private final List<Long> answers = new ArrayList<>();

    private View(String name, int n) {
        this.name = name;
        this.n = n;
    }

    static int count(int n) {
        return n + 4;
    }

    static View of(Payments x, int n, int which) {
        String[] later = {"fuses", "what comes", "what comes after a restart of all", "what can be submitted"};
        View view = new View(which < n ? "node " + which : later[which - n], n);
        switch (which - n) {
            case 0 -> view.burnFuses(x);
            case 1 -> view.goOn(x);
            case 2 -> view.restartAll(x);
            case 3 -> view.submitMore(x);
            default -> view.lookAt(x, which);
        }
        return view;
    }

    /** The first difference, or an empty text. */
    String unlike(View other) {
        for (int i = 0; i < answers.size() && i < other.answers.size(); i++) {
            if (!answers.get(i).equals(other.answers.get(i))) {
                return name + ", answer " + i + ": " + answers.get(i) + " and " + other.answers.get(i);
            }
        }
        return answers.size() == other.answers.size() ? "" : name + ", more answers";
    }

    private void add(long answer) {
        answers.add(answer);
    }

    private void lookAt(Payments x, int node) {
        add(x.pending());
        add(x.state(node));
        add(x.kept(node));
        add(x.sent(node, Net.MARK, 0, 0));
        add(x.heard(node, Net.MARK, 0, 0));
        for (int a = 0; a < n; a++) {
            for (int s = 1; s <= 5; s++) {
                for (int kind = Net.INIT; kind <= Net.DONE; kind++) {
                    add(x.sent(node, kind, a, s));
                }
                for (int kind = Net.ECHO; kind <= Net.DONE; kind++) {
                    add(x.heard(node, kind, a, s));
                }
                add(x.accepted(node, a, s));
            }
        }
        addSums(x, node);
    }

    private void addSums(Payments x, int node) {
        for (int a = 0; a < n; a++) {
            add(x.applied(node, a));
            add(x.balance(node, a));
            add(x.freed(node, a));
        }
    }

    private void burnFuses(Payments x) {
        for (int i = 0; i < n; i++) {
            for (int times = 0; times < 10; times++) {
                add(x.mark(i));
            }
        }
    }

    private void goOn(Payments x) {
        add(Net.settle(x));
        for (int i = 0; i < n; i++) {
            add(x.state(i));
            add(x.kept(i));
            addSums(x, i);
        }
    }

    private void restartAll(Payments x) {
        for (int i = 0; i < n; i++) {
            add(x.restart(i) ? 1 : 0);
        }
        goOn(x);
        for (int i = 0; i < n; i++) {
            add(x.corrupt(i) ? 1 : 0);
        }
    }

    private void submitMore(Payments x) {
        for (int i = 0; i < n; i++) {
            for (int amount : new int[] {1023, 512, 256, 128, 64, 32, 16, 8, 4, 2, 1}) {
                add(x.submit(i, (i + 1) % n, amount));
            }
            for (int s = 1; s <= 5; s++) {
                add(x.sent(i, Net.INIT, i, s));
            }
        }
    }
}
