/** Promises 30 to 34: images, what was refused, how many there are, the digest. */
final class KeepingTest {
    private static final int HUGE = Integer.MAX_VALUE, LOW = Integer.MIN_VALUE;
    private static final Check check = new Check();

    public static void main(String[] args) {
        constants();
        promise30Image();
        promise31From();
        promise31KeepsAllButTextAndStatus();
        promise32Status();
        promise32OtherAnswersAreNone();
        promise33Count();
        promise34Digest();
        check.end();
    }

    private static void constants() {
        check.due("NONE", RavenSupper.NONE, -1);
        check.due("BAD", RavenSupper.BAD, -2);
        check.due("NO", RavenSupper.NO, -3);
        check.due("FULL", RavenSupper.FULL, -4);
    }

    private static RavenSupper told() {
        RavenSupper x = new RavenSupper();
        x.world(5);
        x.way(0, 1, 3);
        x.way(1, 4, 4);
        x.bird(0, 30, 2);
        x.bird(1, 20, 3);
        x.change(1, 5, 6);
        x.belief(4, 3);
        x.crow(1, 2, true);
        x.crow(3, 4, false);
        x.evening();
        x.tell(0, 4, 4, true);
        x.evening();
        x.tell(0, 1, 2, true);
        x.tell(1, 4, 5, false);
        return x;
    }

    private static void promise30Image() {
        RavenSupper x = told();
        for (int i : new int[] {2, -1, HUGE, LOW}) {
            check.bad(x, "image(" + i + ")", () -> x.image(i), -2);
        }
        check.asks(x, "image(0)", () -> x.image(0), 1);
        check.asks(x, "image(1)", () -> x.image(1), 1);
        x.world(1);
        check.asks(x, "kept anew", () -> x.image(0), 1);
        check.due("from(1)", x.from(1), 1);
        check.due("lands", x.count(0), 5);
        check.due("from(0)", x.from(0), 1);
        check.due("lands", x.count(0), 1);
    }

    private static void promise31From() {
        RavenSupper x = told();
        for (int i : new int[] {2, -1, HUGE, LOW}) {
            check.bad(x, "from(" + i + ")", () -> x.from(i), -2);
        }
        check.no(x, "from(0)", () -> x.from(0), -3);
        check.no(x, "from(1)", () -> x.from(1), -3);
        x.image(1);
        check.no(x, "from(0)", () -> x.from(0), -3);
        long digest = x.digest();
        long[] behind = behindEachUndo(x);
        for (int time = 0; time < 2; time++) {
            x.world(3);
            x.evening();
            check.due("from(1)", x.from(1), 1);
            check.due("digest()", x.digest(), digest);
            check.due("of(4, 4)", x.of(4, 4), 7);
            check.due("that may be undone", x.count(4), 2);
            long[] again = behindEachUndo(x);
            for (int i = 0; i < behind.length; i++) {
                check.due("digest() behind undo() " + i, again[i], behind[i]);
            }
        }
    }

    private static long[] behindEachUndo(RavenSupper x) {
        long[] digests = new long[2];
        for (int i = 0; i < 2; i++) {
            check.due("undo()", x.undo(), 1);
            digests[i] = x.digest();
        }
        return digests;
    }

    private static void promise31KeepsAllButTextAndStatus() {
        RavenSupper x = told();
        x.type('a');
        x.world(9);
        x.image(0);
        x.type('b');
        x.world(9);
        x.from(1);
        x.hush();
        x.crow(0, 0, false);
        x.crow(2, 3, true);
        x.belief(1, 0);
        x.change(1, 0, 0);
        x.bird(0, 1, 1);
        check.due("from(0)", x.from(0), 1);
        check.due("bytes", x.count(5), 2);
        check.due("status(0)", x.status(0), 2);
        check.due("status(1)", x.status(1), 1);
        RavenSupper y = told();
        y.type('a');
        y.type('b');
        check.due("digest()", x.digest(), y.digest());
        check.due("evening()", x.evening(), y.evening());
        for (int land = 0; land < 5; land++) {
            check.due("of(" + land + ", 0)", x.of(land, 0), y.of(land, 0));
        }
    }

    private static void promise32Status() {
        RavenSupper x = new RavenSupper();
        for (int time = 1; time <= 3; time++) {
            x.world(0);
            x.worth(5, 5);
            x.plan(0, 0, 0);
            x.round(0, 0, 0, 0);
            x.liars(7);
            x.mixed(-1, 0, 0, 0);
            check.due("status(0)", x.status(0), 6 * time);
            x.undo();
            x.worth(0, 1);
            x.tell(0, 1, 0, true);
            x.sure(0, 1, 0, 0);
            check.due("status(1)", x.status(1), 4 * time);
        }
        for (int caw = 0; caw < 10; caw++) {
            x.crow(0, 0, true);
        }
        check.due("status(2)", x.status(2), 2);
        for (int bytes = 0; bytes < 151; bytes++) {
            x.type(1);
        }
        check.due("status(2)", x.status(2), 3);
        for (int what : new int[] {3, -1, HUGE, LOW}) {
            check.bad(x, "status(" + what + ")", () -> x.status(what), -1);
        }
    }

    private static void promise32OtherAnswersAreNone() {
        RavenSupper x = new RavenSupper();
        check.asks(x, "a fault", x::read, -10);
        check.asks(x, "not so many", () -> x.plan(1, 1, 1), -5);
        check.asks(x, "not so many", () -> x.round(1, 1, 1, 1), -5);
        check.asks(x, "no round", () -> x.round(1, 2, 1, 0), -1);
        check.asks(x, "no round, whichever day", () -> x.round(1, 2, 1, 1), -1);
        check.asks(x, "no odds", () -> x.mixed(1, 0, 1, 0), -1);
        check.asks(x, "unreached", () -> x.of(1, 4), -1);
        x.clear();
        check.type(x, "world 1;world");
        check.asks(x, "a fault", x::read, -18);
        x.clear();
        check.type(x, "world 9;");
        check.asks(x, "an item refused", x::read, -1000);
        // a worth of -2 would be no refusal either: none is counted by its number
        for (int b = 0; b <= 16; b++) {
            RavenSupper y = new RavenSupper();
            y.way(0, 1, 5);
            y.belief(1, b);
            for (int forgets = 1; forgets <= 9; forgets++) {
                y.bird(0, 12, forgets);
                int due = y.worth(0, 1);
                check.asks(y, "worth(0, 1)", () -> y.worth(0, 1), due);
            }
        }
    }

    private static void promise33Count() {
        RavenSupper x = told();
        x.type('z');
        int[] due = {5, 2, 2, 2, 2, 1};
        for (int i = 0; i < 6; i++) {
            int what = i;
            check.asks(x, "count(" + i + ")", () -> x.count(what), due[i]);
        }
        x.way(1, 4, 0);
        check.due("ways", x.count(2), 1);
        for (int what : new int[] {6, -1, HUGE, LOW}) {
            check.bad(x, "count(" + what + ")", () -> x.count(what), -2);
        }
    }

    private static void promise34Digest() {
        RavenSupper x = new RavenSupper();
        check.due("digest()", x.digest(), digestOf(
            4, 0, 0, 0, 0, 0,
            8, 2, 2, 8, 2, 2, 8, 2, 2, 8, 2, 2,
            0, 0, 0, 0, 0, 0,
            12, 4, -1, 0, 0, 12, 4, -1, 0, 0));
        x.world(3);
        x.belief(2, 16);
        x.change(1, 7, 9);
        x.way(2, 1, 3);
        x.way(1, 0, 5);
        x.bird(1, 39, 6);
        x.crow(2, 1, true);
        x.crow(3, 0, false);
        x.evening();
        x.type('t');
        x.tell(1, 1, 5, true);
        check.asks(x, "digest()", x::digest, digestOf(
            3, 1, 2, 2, 1, 1,
            8, 2, 2, (8 * 7 + 8 * 7) / 16, 7, 9, 14, 2, 2,
            5, 0, 3,
            12, 4, -1, 0, 0, 39, 6, 1, 5, 1,
            2, 1, 1, 3, 0, 0));
        x.tell(0, 0, 3, false);
        x.tell(1, 2, 1, false);
        x.hush();
        check.asks(x, "digest()", x::digest, digestOf(
            3, 1, 2, 0, 0, 1,
            8, 2, 2, 7, 7, 9, 14, 2, 2,
            5, 0, 3,
            12, 4, 0, 3, 0, 39, 6, 2, 1, 0));
    }

    private static long digestOf(int... values) {
        long h = 911;
        for (int v : values) {
            h = 31 * h + v;
        }
        return h;
    }
}
