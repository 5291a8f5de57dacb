/** Promises 1 to 9 and 13 to 15: a world, told and asked for, and its text. */
final class WorldTest {
    private static final int HUGE = Integer.MAX_VALUE, LOW = Integer.MIN_VALUE;
    private static final Check check = new Check();

    public static void main(String[] args) {
        promise1NewObject();
        promise1NewObjectAmongOthers();
        promise2World();
        promise2WorldTellsNothingElse();
        promise3Belief();
        promise4Change();
        promise5Way();
        promise6Bird();
        promise7Type();
        promise8Clear();
        promise9Read();
        promise9Faults();
        promise9Refused();
        promise13Of();
        promise13Far();
        promise14About();
        promise15Hours();
        check.end();
    }

    private static void promise1NewObject() {
        RavenSupper x = new RavenSupper();
        check.due("lands", x.count(0), 4);
        for (int what = 1; what <= 5; what++) {
            check.due("count(" + what + ")", x.count(what), 0);
        }
        for (int land = 0; land < 4; land++) {
            check.due("belief", x.of(land, 0), 8);
            check.due("u", x.of(land, 1), 2);
            check.due("d", x.of(land, 2), 2);
            check.due("far", x.of(land, 4), land == 0 ? 0 : -1);
        }
        for (int bird = 0; bird < 2; bird++) {
            check.due("reaches", x.about(bird, 0), 12);
            check.due("forgets", x.about(bird, 1), 4);
            check.due("reached", x.about(bird, 2), 1);
            check.due("tells of", x.about(bird, 3), -1);
        }
        check.due("status(0)", x.status(0), 0);
        check.due("status(1)", x.status(1), 0);
        check.due("status(2)", x.status(2), 0);
        check.no(x, "undo()", x::undo, -3);
        check.no(x, "from(0)", () -> x.from(0), -3);
        check.no(x, "from(1)", () -> x.from(1), -3);
    }

    /** Objects share nothing: one is as new whatever others were told before it or are told meanwhile. */
    private static void promise1NewObjectAmongOthers() {
        RavenSupper rich = States.RICH.make();
        RavenSupper full = States.FULL.make();
        RavenSupper x = new RavenSupper();
        RavenSupper y = new RavenSupper();
        long first = x.digest();
        long richFirst = rich.digest();
        y.world(2);
        y.type('y');
        y.image(1);
        y.evening();
        y.undo();
        y.undo();
        full.plan(2, 63, 0);
        check.due("digest()", x.digest(), first);
        for (int what = 0; what < 3; what++) {
            check.due("status(" + what + ")", x.status(what), 0);
        }
        check.no(x, "undo()", x::undo, -3);
        check.no(x, "from(1)", () -> x.from(1), -3);
        check.asks(x, "read()", x::read, -10);
        check.due("send(15, 0)", x.send(15, 0), 7);
        x.belief(0, 0);
        x.evening();
        check.due("another one, meanwhile", rich.digest(), richFirst);
        check.due("one made behind them", new RavenSupper().digest(), first);
    }

    private static void promise2World() {
        RavenSupper x = new RavenSupper();
        check.due("world(1)", x.world(1), 4);
        check.due("world(6)", x.world(6), 1);
        check.due("world(6)", x.world(6), 6);
        check.due("of(5, 0)", x.of(5, 0), 8);
        for (int n : new int[] {0, 7, -1, HUGE, LOW}) {
            check.bad(x, "world(" + n + ")", () -> x.world(n), -2);
        }
        check.due("lands", x.count(0), 6);
    }

    private static RavenSupper told() {
        RavenSupper x = new RavenSupper();
        x.belief(1, 3);
        x.change(1, 5, 6);
        x.way(0, 1, 3);
        x.way(1, 2, 4);
        x.bird(0, 30, 2);
        x.bird(1, 20, 3);
        x.crow(1, 2, true);
        x.type('w');
        x.evening();
        x.tell(0, 1, 2, true);
        x.tell(1, 2, 5, true);
        x.image(1);
        return x;
    }

    private static void promise2WorldTellsNothingElse() {
        RavenSupper x = told();
        RavenSupper fresh = new RavenSupper();
        fresh.type('w');
        check.bad(x, "belief(4, 1)", () -> x.belief(4, 1), -2);
        check.due("world(4)", x.world(4), 4);
        check.due("digest()", x.digest(), fresh.digest());
        check.due("far", x.of(1, 4), -1);
        check.due("hours(0, 1)", x.hours(0, 1), 0);
        check.due("hours(1, 0)", x.hours(1, 0), 0);
        check.due("status(0)", x.status(0), 1);
        check.no(x, "undo()", x::undo, -3);
        check.due("text", x.count(5), 1);
        check.due("an image stays", x.from(1), 1);
        check.due("belief behind the day of it", x.of(1, 0), (3 * 10 + 13 * 5) / 16);
    }

    private static void promise3Belief() {
        RavenSupper x = new RavenSupper();
        check.due("belief(3, 0)", x.belief(3, 0), 8);
        check.due("belief(3, 16)", x.belief(3, 16), 0);
        check.due("belief(3, 16)", x.belief(3, 16), 16);
        check.due("of(3, 0)", x.of(3, 0), 16);
        check.due("of(2, 0)", x.of(2, 0), 8);
        int[][] wrong = {{4, 1}, {-1, 1}, {0, 17}, {0, -1}, {HUGE, 0}, {0, LOW}};
        for (int[] w : wrong) {
            check.bad(x, "belief(" + w[0] + ", " + w[1] + ")", () -> x.belief(w[0], w[1]), -2);
        }
        x.tell(0, 0, 0, true);
        x.evening();
        x.tell(0, 0, 0, true);
        x.belief(0, 8);
        check.due("it leaves none to undo", x.count(4), 0);
        check.due("it leaves what is told", x.about(0, 3), 0);
    }

    private static void promise4Change() {
        RavenSupper x = new RavenSupper();
        check.due("change(1, 16, 0)", x.change(1, 16, 0), 202);
        check.due("change(1, 0, 16)", x.change(1, 0, 16), 1600);
        check.due("change(1, 3, 4)", x.change(1, 3, 4), 16);
        check.due("of(1, 1)", x.of(1, 1), 3);
        check.due("of(1, 2)", x.of(1, 2), 4);
        check.due("of(0, 1)", x.of(0, 1), 2);
        int[][] wrong = {{4, 1, 1}, {-1, 1, 1}, {0, 17, 1}, {0, -1, 1}, {0, 1, 17}, {0, 1, -1}, {HUGE, 1, 1}};
        for (int[] w : wrong) {
            check.bad(x, "change", () -> x.change(w[0], w[1], w[2]), -2);
        }
        x.evening();
        x.tell(0, 0, 0, true);
        x.change(0, 2, 2);
        check.due("it leaves none to undo", x.count(4), 0);
        check.due("it leaves what is told", x.about(0, 3), 0);
    }

    private static void promise5Way() {
        RavenSupper x = new RavenSupper();
        check.due("way(3, 1, 9)", x.way(3, 1, 9), 0);
        check.due("way(1, 3, 4)", x.way(1, 3, 4), 9);
        check.due("hours(3, 1)", x.hours(3, 1), 4);
        check.due("way(0, 3, 1)", x.way(0, 3, 1), 0);
        check.due("ways", x.count(2), 2);
        check.due("way(0, 3, 0)", x.way(0, 3, 0), 1);
        check.due("ways", x.count(2), 1);
        check.due("way(3, 1, 0)", x.way(3, 1, 0), 4);
        check.due("ways", x.count(2), 0);
        int[][] wrong = {{1, 1, 2}, {4, 1, 1}, {1, 4, 1}, {-1, 1, 1}, {1, -1, 1}, {0, 1, 10}, {0, 1, -1}, {HUGE, LOW, 1}};
        for (int[] w : wrong) {
            check.bad(x, "way", () -> x.way(w[0], w[1], w[2]), -2);
        }
        x.evening();
        x.tell(0, 0, 0, true);
        x.tell(1, 0, 0, true);
        x.way(1, 2, 0);
        check.due("it leaves none to undo", x.count(4), 0);
        check.due("what bird 0 told is gone", x.about(0, 3), -1);
        check.due("what bird 1 told is gone", x.about(1, 3), -1);
    }

    private static void promise6Bird() {
        RavenSupper x = new RavenSupper();
        check.due("bird(1, 0, 1)", x.bird(1, 0, 1), 12);
        check.due("bird(1, 40, 9)", x.bird(1, 40, 9), 0);
        check.due("bird(1, 7, 9)", x.bird(1, 7, 9), 40);
        check.due("bird(0, 7, 9)", x.bird(0, 7, 9), 12);
        int[][] wrong = {{2, 1, 1}, {-1, 1, 1}, {0, 41, 1}, {0, -1, 1}, {0, 1, 0}, {0, 1, 10}, {HUGE, 1, 1}, {0, LOW, 1}};
        for (int[] w : wrong) {
            check.bad(x, "bird", () -> x.bird(w[0], w[1], w[2]), -2);
        }
        x.evening();
        x.tell(0, 0, 0, true);
        x.tell(1, 0, 0, true);
        x.bird(1, 7, 9);
        check.due("it leaves none to undo", x.count(4), 0);
        check.due("what bird 0 told is gone", x.about(0, 3), -1);
        check.due("what bird 1 told is gone", x.about(1, 3), -1);
    }

    private static void promise7Type() {
        RavenSupper x = new RavenSupper();
        x.evening();
        check.due("type(0)", x.type(0), 1);
        check.due("type(127)", x.type(127), 2);
        check.due("it leaves what may be undone", x.count(4), 1);
        for (int c : new int[] {-1, 128, HUGE, LOW}) {
            check.bad(x, "type(" + c + ")", () -> x.type(c), -2);
        }
        for (int length = 3; length <= 150; length++) {
            check.due("type(32)", x.type(32), length);
        }
        check.full(x, "type(32)", () -> x.type(32), -4);
        check.bad(x, "type(128) in a full text", () -> x.type(128), -2);
        check.due("bytes", x.count(5), 150);
    }

    private static void promise8Clear() {
        RavenSupper x = new RavenSupper();
        check.due("clear()", x.clear(), 0);
        check.type(x, "abc");
        x.evening();
        check.due("clear()", x.clear(), 3);
        check.due("bytes", x.count(5), 0);
        check.due("clear()", x.clear(), 0);
        check.due("it leaves what may be undone", x.count(4), 1);
        for (int length = 0; length < 150; length++) {
            x.type('x');
        }
        check.due("clear()", x.clear(), 150);
        check.due("type(1)", x.type(1), 1);
    }

    private static int readOf(String text) {
        RavenSupper x = new RavenSupper();
        check.type(x, text);
        return x.read();
    }

    private static void promise9Read() {
        RavenSupper x = told();
        x.clear();
        check.type(x, "world 5;belief 04 0 ; change 1 16 7;  way 0 3 9; bird1 40 1;way 3 4 1;");
        check.due("read()", x.read(), 6);
        RavenSupper y = new RavenSupper();
        y.world(5);
        y.belief(4, 0);
        y.change(1, 16, 7);
        y.way(0, 3, 9);
        y.bird(1, 40, 1);
        y.way(3, 4, 1);
        for (int bytes = x.count(5); bytes > 0; bytes--) {
            y.type(1);
        }
        check.due("digest()", x.digest(), y.digest());
        check.due("of(4, 4)", x.of(4, 4), 10);
        check.due("about(1, 2)", x.about(1, 2), 1 | 1 << 3 | 1 << 4);
        check.no(x, "undo()", x::undo, -3);
        check.due("read() again", x.read(), 6);
        check.due("an image stays", x.from(1), 1);
        check.due("lands of the image", x.count(0), 4);
        check.due("world alone", readOf("world 6;"), 1);
        check.due("blanks all about", readOf("  world   1  ;   "), 1);
        check.due("none between", readOf("world4;way0 1 1;way0 1 0;"), 3);
    }

    private static void fault(String text, int place) {
        RavenSupper x = told();
        x.clear();
        check.type(x, text);
        check.asks(x, "read() of <" + text + ">", x::read, -10 - place);
    }

    private static void promise9Faults() {
        fault("", 0);
        fault("   ", 3);
        fault("world", 5);
        fault("world 3", 7);
        fault("world 3 ", 8);
        fault("belief 0 1;", 0);
        fault(" belief 0 1; world 3;", 1);
        fault("; world 3;", 0);
        fault("3 world 3;", 0);
        fault("world 3; world 3;", 9);
        fault("world 3;;", 8);
        fault("world 3; raven 1 2 3;", 9);
        fault("world 3; worldx 3;", 9);
        fault("world 3; wor ld 3;", 9);
        fault("worl 3;", 0);
        fault("World 3;", 0);
        fault("world 123;", 6);
        fault("world 003;", 6);
        fault("world 3 4;", 8);
        fault("world ;", 6);
        fault("world x;", 6);
        fault("world -1;", 6);
        fault("world 3;belief 1;", 16);
        fault("world 3;belief 1 2 3;", 19);
        fault("world 3;change 1 2;", 18);
        fault("world 3;way 1 2 3 4;", 18);
        fault("world 3;bird 1 2 3", 18);
        fault("world 3;bird 1 2 3;x", 19);
        fault("world 3;bird 1 2 333;", 17);
        fault("world 3;bird 1 2 3;#", 19);
        fault("world 3;\n", 8);
        fault("world 3;\u007f", 8);
        fault("world 3;{", 8);
        fault("world 3;`", 8);
        fault("world 3:", 7);
        fault("world 3/", 7);
        fault("world 9;belief 1 2;way", 22);
        fault("world 9;belief 99 2;way 1 2 3 4;", 30);
    }

    private static void refusedItem(String text, int item) {
        RavenSupper x = told();
        x.clear();
        check.type(x, text);
        check.asks(x, "read() of <" + text + ">", x::read, -1000 - item);
    }

    private static void promise9Refused() {
        refusedItem("world 0;", 0);
        refusedItem("world 7;belief 9 9;", 0);
        refusedItem("world 3;belief 3 1;", 1);
        refusedItem("world 3;belief 2 17;", 1);
        refusedItem("world 6;belief 5 16;change 5 17 1;", 2);
        refusedItem("world 6;belief 5 16;change 5 1 17;", 2);
        refusedItem("world 6;way 1 2 3;way 1 2 10;", 2);
        refusedItem("world 6;way 2 2 3;way 1 2 10;", 1);
        refusedItem("world 6;bird 2 2 3;", 1);
        refusedItem("world 6;bird 1 41 3;", 1);
        refusedItem("world 6;bird 1 40 0;", 1);
        refusedItem("world 6;bird 1 40 10;bird 9 9 9;", 1);
    }

    private static void promise13Of() {
        RavenSupper x = new RavenSupper();
        for (int b = 0; b <= 16; b++) {
            x.belief(2, b);
            check.due("of(2, 0)", x.of(2, 0), b);
            check.due("of(2, 3)", x.of(2, 3), b < 8 ? b : 16 - b);
        }
        int[][] wrong = {{4, 0}, {-1, 0}, {0, 5}, {0, -1}, {HUGE, HUGE}, {3, LOW}};
        for (int[] w : wrong) {
            check.bad(x, "of", () -> x.of(w[0], w[1]), -2);
        }
        x.world(2);
        check.bad(x, "of(2, 0)", () -> x.of(2, 0), -2);
    }

    private static void promise13Far() {
        RavenSupper x = new RavenSupper();
        x.world(6);
        x.way(0, 5, 9);
        x.way(4, 5, 1);
        x.way(3, 4, 1);
        x.way(2, 3, 1);
        x.way(1, 2, 1);
        for (int land = 1; land < 6; land++) {
            check.due("of(" + land + ", 4)", x.of(land, 4), 14 - land);
        }
        x.way(0, 1, 2);
        check.due("of(5, 4)", x.of(5, 4), 6);
        check.due("of(0, 4)", x.of(0, 4), 0);
        x.way(2, 3, 0);
        check.due("of(5, 4)", x.of(5, 4), 9);
        check.due("of(3, 4)", x.of(3, 4), 11);
        x.way(0, 5, 0);
        check.due("of(5, 4)", x.of(5, 4), -1);
        check.due("of(2, 4)", x.of(2, 4), 3);
    }

    private static void promise14About() {
        RavenSupper x = new RavenSupper();
        x.way(0, 1, 6);
        x.way(1, 2, 1);
        check.due("about(0, 2)", x.about(0, 2), 3);
        x.bird(0, 11, 5);
        check.due("about(0, 2)", x.about(0, 2), 1);
        x.bird(0, 14, 5);
        check.due("about(0, 2)", x.about(0, 2), 7);
        check.due("about(0, 0)", x.about(0, 0), 14);
        check.due("about(0, 1)", x.about(0, 1), 5);
        check.due("about(1, 2)", x.about(1, 2), 3);
        x.tell(1, 1, 3, false);
        check.due("about(1, 3)", x.about(1, 3), 1);
        check.due("about(0, 3)", x.about(0, 3), -1);
        int[][] wrong = {{2, 0}, {-1, 0}, {0, 4}, {1, -1}, {HUGE, LOW}};
        for (int[] w : wrong) {
            check.bad(x, "about", () -> x.about(w[0], w[1]), -2);
        }
    }

    private static void promise15Hours() {
        RavenSupper x = new RavenSupper();
        x.way(1, 2, 7);
        check.due("hours(1, 2)", x.hours(1, 2), 7);
        check.due("hours(2, 1)", x.hours(2, 1), 7);
        check.due("hours(0, 1)", x.hours(0, 1), 0);
        int[][] wrong = {{0, 0}, {3, 3}, {4, 0}, {0, 4}, {-1, 0}, {0, -1}, {HUGE, HUGE}};
        for (int[] w : wrong) {
            check.bad(x, "hours", () -> x.hours(w[0], w[1]), -2);
        }
    }
}
