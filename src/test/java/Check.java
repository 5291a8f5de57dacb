import java.util.function.LongSupplier;

/** Counts answers, prints those that are not due, and tells by the exit code whether there were any. */
final class Check {
    private int right;
    private int wrong;

    void due(String call, long got, long want) {
        if (got == want) {
            right++;
            return;
        }
        wrong++;
        System.out.println(call + " answered " + got + ", due is " + want);
    }

    /** The call is refused with that answer: STATUS counts it under its reason, all else stays. */
    void bad(RavenSupper x, String call, LongSupplier made, long answer) {
        refused(x, call, made, answer, 0);
    }

    void no(RavenSupper x, String call, LongSupplier made, long answer) {
        refused(x, call, made, answer, 1);
    }

    void full(RavenSupper x, String call, LongSupplier made, long answer) {
        refused(x, call, made, answer, 2);
    }

    /** The call answers so, and nothing changes, STATUS neither. */
    void asks(RavenSupper x, String call, LongSupplier made, long answer) {
        refused(x, call, made, answer, 3);
    }

    private void refused(RavenSupper x, String call, LongSupplier made, long answer, int reason) {
        long digest = x.digest();
        int[] before = {x.status(0), x.status(1), x.status(2)};
        due(call, made.getAsLong(), answer);
        for (int what = 0; what < 3; what++) {
            due("status(" + what + ") behind " + call, x.status(what), before[what] + (what == reason ? 1 : 0));
        }
        due("digest() behind " + call, x.digest(), digest);
    }

    void type(RavenSupper x, String text) {
        int length = x.count(5);
        for (int i = 0; i < text.length(); i++) {
            length++;
            due("type(" + (int) text.charAt(i) + ")", x.type(text.charAt(i)), length);
        }
    }

    void end() {
        System.out.println(right + " answers as due, " + wrong + " not");
        if (wrong != 0 || right == 0) {
            System.exit(1);
        }
    }
}
