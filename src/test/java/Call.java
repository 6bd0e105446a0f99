import java.util.Arrays;

/** One call by name, with its arguments: it can be made on an object and on the model, and it can be printed. */
final class Call {
    private final String name;
    private final long[] arguments;

    Call(String name, long... arguments) {
        this.name = name;
        this.arguments = arguments;
    }

    /** The same call with another argument at one place. */
    Call with(int place, long value) {
        long[] changed = arguments.clone();
        changed[place] = value;
        return new Call(name, changed);
    }

    String name() {
        return name;
    }

    int size() {
        return arguments.length;
    }

    private int at(int place) {
        return (int) arguments[place];
    }

    /** A boolean counts 1 or 0. */
    long on(Payments x) {
        return switch (name) {
            case "submit" -> x.submit(at(0), at(1), at(2));
            case "corrupt" -> x.corrupt(at(0)) ? 1 : 0;
            case "forge" -> x.forge(at(0), at(1), at(2), arguments[3]);
            case "carry" -> x.carry(at(0), at(1), at(2), at(3), at(4));
            case "pump" -> x.pump(at(0));
            case "pending" -> x.pending();
            case "crash" -> x.crash(at(0)) ? 1 : 0;
            case "restart" -> x.restart(at(0)) ? 1 : 0;
            case "fuse" -> x.fuse(at(0), at(1)) ? 1 : 0;
            case "mark" -> x.mark(at(0));
            case "sent" -> x.sent(at(0), at(1), at(2), at(3));
            case "heard" -> x.heard(at(0), at(1), at(2), at(3));
            case "accepted" -> x.accepted(at(0), at(1), at(2));
            case "applied" -> x.applied(at(0), at(1));
            case "balance" -> x.balance(at(0), at(1));
            case "freed" -> x.freed(at(0), at(1));
            case "kept" -> x.kept(at(0));
            case "state" -> x.state(at(0));
            default -> throw new IllegalArgumentException(name);
        };
    }

    /** Whether the document says that a call with this answer changes nothing. */
    boolean leavesAllAsItWas(long answer) {
        return switch (name) {
            case "submit", "forge", "carry", "pump", "mark" -> answer < 0 && answer != EchoPayments.CRASHED;
            case "corrupt", "crash", "restart", "fuse" -> answer == 0;
            default -> true;
        };
    }

    @Override
    public String toString() {
        String list = Arrays.toString(arguments);
        return name + "(" + list.substring(1, list.length() - 1) + ")";
    }
}
