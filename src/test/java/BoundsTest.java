import java.util.List;

/**
 * Each argument of each call, in each of the States: the least and the most that it may be are taken,
 * what is one less, one more or far off is refused, and what is refused changes nothing but STATUS.
 */
final class BoundsTest {
    private static final int MOST = Integer.MAX_VALUE, LEAST = Integer.MIN_VALUE;
    private static final int BAD = -2, NO = -3, FULL = -4;
    private static final Check check = new Check();

    private final States state;
    private final List<Long> untouched;
    private final int lands;

    /** A call, by the value of the argument that is looked at. */
    private interface Call {
        long on(RavenSupper x, int value);
    }

    private BoundsTest(States state) {
        this.state = state;
        untouched = Probe.of(state.make());
        lands = state.make().count(0);
    }

    public static void main(String[] args) {
        for (States state : States.values()) {
            BoundsTest test = new BoundsTest(state);
            test.ofAWorld();
            test.ofWays();
            test.ofEvenings();
            test.ofFlights();
            test.ofOddsAndRounds();
            test.ofCrowsAndDeeds();
            test.ofWhatThereIs();
        }
        notAsTold();
        inTheirOrder();
        refusedAsNo();
        refusedAsFull();
        noRefusal();
        check.end();
    }

    private void ofAWorld() {
        range("world n", 1, 6, (x, n) -> x.world(n), BAD);
        range("belief land", 0, lands - 1, (x, land) -> x.belief(land, 1), BAD);
        range("belief b", 0, 16, (x, b) -> x.belief(0, b), BAD);
        range("change land", 0, lands - 1, (x, land) -> x.change(land, 1, 1), BAD);
        range("change u", 0, 16, (x, u) -> x.change(0, u, 1), BAD);
        range("change d", 0, 16, (x, d) -> x.change(0, 1, d), BAD);
        range("bird bird", 0, 1, (x, bird) -> x.bird(bird, 1, 1), BAD);
        range("bird reaches", 0, 40, (x, reaches) -> x.bird(0, reaches, 1), BAD);
        range("bird forgets", 1, 9, (x, forgets) -> x.bird(1, 1, forgets), BAD);
        range("type c", 0, 127, (x, c) -> x.type(c), BAD);
    }

    private void ofWays() {
        if (lands > 1) {
            range("way a", 0, lands - 1, (x, a) -> x.way(a, a == 0 ? 1 : 0, 1), BAD);
            range("way b", 0, lands - 1, (x, b) -> x.way(b == 1 ? 0 : 1, b, 1), BAD);
            range("way hours", 0, 9, (x, hours) -> x.way(0, 1, hours), BAD);
            asked("hours a", 0, lands - 1, (x, a) -> x.hours(a, a == 0 ? 1 : 0), BAD);
            asked("hours b", 0, lands - 1, (x, b) -> x.hours(b == 1 ? 0 : 1, b), BAD);
        }
        for (int land = 0; land < lands; land++) {
            int both = land;
            refused("way(" + land + ", " + land + ", 1)", x -> x.way(both, both, 1), BAD, BAD);
            refused("hours(" + land + ", " + land + ")", x -> x.hours(both, both), BAD, BAD);
        }
    }

    private void ofEvenings() {
        range("tell bird", 0, 1, (x, bird) -> x.tell(bird, 0, 0, true), BAD);
        range("tell land", 0, lands - 1, (x, land) -> x.tell(1, land, 0, true), BAD);
        range("tell kind", 0, 5, (x, kind) -> x.tell(0, 0, kind, false), BAD);
        asked("of land", 0, lands - 1, (x, land) -> x.of(land, 0), BAD);
        asked("of what", 0, 4, (x, what) -> x.of(0, what), BAD);
        asked("about bird", 0, 1, (x, bird) -> x.about(bird, 0), BAD);
        asked("about what", 0, 3, (x, what) -> x.about(0, what), BAD);
        asked("sure bird", 0, 1, (x, bird) -> x.sure(bird, 0, 0, 0), BAD);
        range("sure land", 0, lands - 1, (x, land) -> x.sure(1, land, 0, 0), BAD);
        asked("sure kind", 0, 5, (x, kind) -> x.sure(0, 0, kind, 0), BAD);
        asked("sure what", 0, 1, (x, what) -> x.sure(0, 0, 5, what), BAD);
    }

    private void ofFlights() {
        int all = (1 << lands) - 1;
        asked("ahead land", 0, lands - 1, (x, land) -> x.ahead(land, 1), BAD);
        asked("ahead m", 0, 30, (x, m) -> x.ahead(0, m), BAD);
        asked("worth bird", 0, 1, (x, bird) -> x.worth(bird, 0), -100000);
        range("worth land", 0, lands - 1, (x, land) -> x.worth(1, land), -100000);
        asked("send lands", 0, all, (x, bits) -> x.send(bits, 0), BAD);
        asked("send what", 0, 1, (x, what) -> x.send(1, what), BAD);
        asked("third lands", 0, all, (x, bits) -> x.third(bits), BAD);
        asked("plan m", 1, 2, (x, m) -> x.plan(m, 1, 0), -10);
        asked("plan lands", 0, all, (x, bits) -> x.plan(2, bits, 0), -10);
        asked("plan i", -1, MOST, (x, i) -> x.plan(1, 1, i), -10);
    }

    private void ofOddsAndRounds() {
        asked("noon g", 0, 99, (x, g) -> x.noon(g, 1), BAD);
        asked("noon l", 0, 99, (x, l) -> x.noon(1, l), BAD);
        asked("mixed g", 0, 99, (x, g) -> x.mixed(g, 1, 1, 1), -10);
        asked("mixed l", 0, 99, (x, l) -> x.mixed(1, l, 1, 1), -10);
        asked("mixed otherG", 0, 99, (x, g) -> x.mixed(1, 1, g, 1), -10);
        asked("mixed otherL", 0, 99, (x, l) -> x.mixed(1, 1, 1, l), -10);
        asked("round m", 1, 5, (x, m) -> x.round(m, 1, 1, 0), -10);
        asked("round lands", 0, (1 << lands) - 1, (x, bits) -> x.round(5, bits, 5, 0), -10);
        asked("round k", 1, 12, (x, k) -> x.round(1, 1, k, 0), -10);
        asked("round i", 0, MOST, (x, i) -> x.round(5, 1, 1, i), -10);
    }

    private void ofCrowsAndDeeds() {
        range("crow c", 0, 3, (x, c) -> x.crow(c, 0, true), BAD);
        range("crow land", 0, lands - 1, (x, land) -> x.crow(0, land, true), BAD);
        asked("liars what", 0, 1, (x, what) -> x.liars(what), -10);
        asked("leftOut k", 0, 6, (x, k) -> x.leftOut(k, 0, 0, 0), BAD);
        asked("leftOut a", 0, lands - 1, (x, a) -> x.leftOut(1, a, 0, 0), BAD);
        asked("leftOut b", 0, lands - 1, (x, b) -> x.leftOut(1, 0, b, 0), BAD);
        asked("leftOut land", -1, lands - 1, (x, land) -> x.leftOut(1, 0, 0, land), BAD);
        asked("mornings m", 0, 60, (x, m) -> x.mornings(m, 1), BAD);
        asked("mornings seed", 0, 999999, (x, seed) -> x.mornings(1, seed), BAD);
    }

    private void ofWhatThereIs() {
        range("image i", 0, 1, (x, i) -> x.image(i), BAD);
        range("from i", 0, 1, (x, i) -> x.from(i), BAD);
        asked("status what", 0, 2, (x, what) -> x.status(what), -1);
        asked("count what", 0, 5, (x, what) -> x.count(what), BAD);
    }

    /** The call is taken, or refused for another reason, from least to most; it is refused as BAD beyond. */
    private void range(String argument, int least, int most, Call call, long refusal) {
        for (int value : new int[] {least, most}) {
            RavenSupper x = state.make();
            int before = x.status(0);
            call.on(x, value);
            check.due(state + ": " + argument + " " + value + " is told wrong", x.status(0), before);
        }
        for (long value : new long[] {least - 1L, least - 256L, least - 65536L, LEAST}) {
            beyond(argument, value, call, refusal);
        }
        for (long value : new long[] {most + 1L, most + 256L, most + 65536L, MOST}) {
            if (value > most) {
                beyond(argument, value, call, refusal);
            }
        }
    }

    /** A range of a call that changes nothing if it is taken, either. */
    private void asked(String argument, int least, int most, Call call, long refusal) {
        range(argument, least, most, call, refusal);
        for (int value : new int[] {least, most}) {
            RavenSupper x = state.make();
            int[] before = {x.status(0), x.status(1), x.status(2)};
            call.on(x, value);
            statusIs(argument + " " + value, x, before, 0);
            unchanged(argument + " " + value, x);
        }
    }

    private void beyond(String argument, long value, Call call, long refusal) {
        if (value >= LEAST && value <= MOST) {
            refused(argument + " " + value, x -> call.on(x, (int) value), refusal, BAD);
        }
    }

    private interface Refused {
        long on(RavenSupper x);
    }

    /** The call answers so, is counted under its reason (0: none), and nothing else has changed. */
    private void refused(String call, Refused made, long answer, int reason) {
        RavenSupper x = state.make();
        int[] before = {x.status(0), x.status(1), x.status(2)};
        check.due(state + ": " + call, made.on(x), answer);
        statusIs(call, x, before, reason);
        unchanged(call, x);
    }

    private void statusIs(String call, RavenSupper x, int[] before, int reason) {
        for (int what = 0; what < 3; what++) {
            int more = what == -2 - reason ? 1 : 0;
            check.due(state + ": status(" + what + ") behind " + call, x.status(what), before[what] + more);
        }
    }

    private void unchanged(String call, RavenSupper x) {
        check.due(state + ": what is there behind " + call + " is as it was", Probe.of(x).equals(untouched) ? 1 : 0, 1);
    }

    /** A call with more than one wrong number is refused once. */
    private static void notAsTold() {
        BoundsTest rich = new BoundsTest(States.RICH);
        rich.refused("belief(5, 17)", x -> x.belief(5, 17), BAD, BAD);
        rich.refused("change(-1, 17, 17)", x -> x.change(-1, 17, 17), BAD, BAD);
        rich.refused("way(5, 5, 10)", x -> x.way(5, 5, 10), BAD, BAD);
        rich.refused("way(1, 1, 0)", x -> x.way(1, 1, 0), BAD, BAD);
        rich.refused("bird(2, 41, 0)", x -> x.bird(2, 41, 0), BAD, BAD);
        rich.refused("of(5, 5)", x -> x.of(5, 5), BAD, BAD);
        rich.refused("about(2, 4)", x -> x.about(2, 4), BAD, BAD);
        rich.refused("hours(5, 5)", x -> x.hours(5, 5), BAD, BAD);
        rich.refused("ahead(5, 31)", x -> x.ahead(5, 31), BAD, BAD);
        rich.refused("send(32, 2)", x -> x.send(32, 2), BAD, BAD);
        rich.refused("plan(3, 32, -2)", x -> x.plan(3, 32, -2), -10, BAD);
        rich.refused("noon(100, 100)", x -> x.noon(100, 100), BAD, BAD);
        rich.refused("mixed(100, 100, 100, 100)", x -> x.mixed(100, 100, 100, 100), -10, BAD);
        rich.refused("round(6, 32, 13, -1)", x -> x.round(6, 32, 13, -1), -10, BAD);
        rich.refused("crow(4, 5, true)", x -> x.crow(4, 5, true), BAD, BAD);
        rich.refused("leftOut(7, 5, 5, 5)", x -> x.leftOut(7, 5, 5, 5), BAD, BAD);
        rich.refused("mornings(61, 1000000)", x -> x.mornings(61, 1000000), BAD, BAD);
    }

    /** "the first of: BAD ..; NO ..; FULL": what is refused for two reasons is refused for the first. */
    private static void inTheirOrder() {
        BoundsTest fresh = new BoundsTest(States.NEW);
        fresh.refused("tell(2, 1, 0, true)", x -> x.tell(2, 1, 0, true), BAD, BAD);
        fresh.refused("tell(0, 1, 6, true)", x -> x.tell(0, 1, 6, true), BAD, BAD);
        fresh.refused("sure(-1, 1, 0, 0)", x -> x.sure(-1, 1, 0, 0), BAD, BAD);
        fresh.refused("sure(0, 1, -1, 0)", x -> x.sure(0, 1, -1, 0), BAD, BAD);
        fresh.refused("sure(0, 1, 0, 2)", x -> x.sure(0, 1, 0, 2), BAD, BAD);
        fresh.refused("worth(2, 1)", x -> x.worth(2, 1), -100000, BAD);
        fresh.refused("from(2)", x -> x.from(2), BAD, BAD);
        fresh.refused("plan(1, 16, 1)", x -> x.plan(1, 16, 1), -10, BAD);
        fresh.refused("plan(3, 1, 3)", x -> x.plan(3, 1, 3), -10, BAD);
        fresh.refused("round(1, 2, 0, 0)", x -> x.round(1, 2, 0, 0), -10, BAD);
        fresh.refused("round(1, 2, 1, -1)", x -> x.round(1, 2, 1, -1), -10, BAD);
        BoundsTest full = new BoundsTest(States.FULL);
        full.refused("crow(4, 0, true)", x -> x.crow(4, 0, true), BAD, BAD);
        full.refused("crow(0, 6, true)", x -> x.crow(0, 6, true), BAD, BAD);
        full.refused("type(128)", x -> x.type(128), BAD, BAD);
        full.refused("type(-1)", x -> x.type(-1), BAD, BAD);
    }

    private static void refusedAsNo() {
        BoundsTest fresh = new BoundsTest(States.NEW);
        fresh.refused("no evening: undo()", RavenSupper::undo, NO, NO);
        fresh.refused("no image: from(0)", x -> x.from(0), NO, NO);
        fresh.refused("no image: from(1)", x -> x.from(1), NO, NO);
        fresh.refused("no way: tell(0, 3, 0, true)", x -> x.tell(0, 3, 0, true), NO, NO);
        fresh.refused("no way: sure(1, 1, 5, 1)", x -> x.sure(1, 1, 5, 1), NO, NO);
        fresh.refused("no way: worth(1, 3)", x -> x.worth(1, 3), -200000, NO);
        BoundsTest rich = new BoundsTest(States.RICH);
        rich.refused("too far: tell(0, 3, 2, false)", x -> x.tell(0, 3, 2, false), NO, NO);
        rich.refused("no way: tell(1, 4, 2, false)", x -> x.tell(1, 4, 2, false), NO, NO);
        rich.refused("too far: sure(0, 3, 0, 0)", x -> x.sure(0, 3, 0, 0), NO, NO);
        rich.refused("too far: worth(0, 3)", x -> x.worth(0, 3), -200000, NO);
        rich.refused("no way: worth(1, 4)", x -> x.worth(1, 4), -200000, NO);
        BoundsTest full = new BoundsTest(States.FULL);
        full.refused("no image: from(0)", x -> x.from(0), NO, NO);
        full.refused("a way, but not from home: tell(0, 1, 0, true)", x -> x.tell(0, 1, 0, true), NO, NO);
        BoundsTest one = new BoundsTest(States.ONE_LAND);
        one.refused("no image: from(1)", x -> x.from(1), NO, NO);
    }

    private static void refusedAsFull() {
        BoundsTest full = new BoundsTest(States.FULL);
        for (int c : new int[] {0, 32, 59, 97, 127}) {
            full.refused("type(" + c + ")", x -> x.type(c), FULL, FULL);
        }
        for (int c = 0; c < 4; c++) {
            int crow = c;
            full.refused("crow(" + c + ", 0, true)", x -> x.crow(crow, 0, true), FULL, FULL);
            full.refused("crow(" + c + ", 5, false)", x -> x.crow(crow, 5, false), FULL, FULL);
        }
    }

    /** What is answered below 0 and is no refusal: it changes nothing, STATUS neither. */
    private static void noRefusal() {
        for (States state : States.values()) {
            BoundsTest test = new BoundsTest(state);
            test.refused("not so many: plan(1, 1, 1)", x -> x.plan(1, 1, 1), -5, 0);
            test.refused("not so many: plan(2, 0, 2)", x -> x.plan(2, 0, 2), -5, 0);
            test.refused("not so many days: round(5, 1, 1, 5)", x -> x.round(5, 1, 1, 5), -5, 0);
            test.refused("no odds: mixed(1, 0, 1, 0)", x -> x.mixed(1, 0, 1, 0), -1, 0);
        }
        BoundsTest fresh = new BoundsTest(States.NEW);
        fresh.refused("an empty text: read()", RavenSupper::read, -10, 0);
        fresh.refused("tells of none: about(0, 3)", x -> x.about(0, 3), -1, 0);
        fresh.refused("no way: of(1, 4)", x -> x.of(1, 4), -1, 0);
        fresh.refused("no round: round(5, 2, 12, 0)", x -> x.round(5, 2, 12, 0), -1, 0);
        BoundsTest one = new BoundsTest(States.ONE_LAND);
        one.refused("a text that ends too early: read()", RavenSupper::read, -27, 0);
    }
}
