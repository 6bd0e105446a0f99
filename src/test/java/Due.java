import java.util.Set;
import java.util.TreeSet;

/** Prints every answer that is not the one that is due, and ends the test with exit code 1 if there was one. */
final class Due {
    private int wrong = 0;
    private int asked = 0;
    private String part = "";

    void part(String name) {
        part = name;
    }

    void is(String call, long want, long got) {
        asked++;
        if (want != got) {
            wrong++;
            System.out.println(part + ": " + call + " answered " + got + ", due is " + want);
        }
    }

    void is(String call, boolean want, boolean got) {
        is(call, want ? 1 : 0, got ? 1 : 0);
    }

    void isTrue(String claim, boolean holds) {
        asked++;
        if (!holds) {
            wrong++;
            System.out.println(part + ": it does not hold that " + claim);
        }
    }

    void isText(String what, Set<String> want, Set<String> got) {
        String wanted = new TreeSet<>(want).toString();
        isTrue(what + " are " + wanted + " (they are " + got + ")", wanted.equals(new TreeSet<>(got).toString()));
    }

    boolean isAllRight() {
        return wrong == 0;
    }

    void end() {
        System.out.println(asked + " answers, " + wrong + " of them not as due");
        if (wrong != 0) {
            System.exit(1);
        }
    }
}
