/**
 * The edges that row 1 of the Terms names: lands, beliefs, ways, birds, kinds of tidings, evenings.
 * Each method is a sentence of it; what is due was worked out by hand from its words.
 */
final class LandsEdgesTest {
    private static final int PLAIN = 0, LATE = 1, FORGOTTEN = 2, CROW = 3, THOUGHT = 4, HEARSAY = 5;
    private static final Check check = new Check();

    public static void main(String[] args) {
        landsAreOneToSix();
        landZeroIsHome();
        beliefsAreOfSixteen();
        changesAreOfSixteen();
        aDayIsCut();
        aDayGoesByInAllLands();
        noHoursAreNoWay();
        waysGoBothWays();
        farIsTheFewestHours();
        farWithoutAWay();
        reachedIfTwiceFarIsNoMore();
        forgottenByFarIsCut();
        plainIsEightAtLeast();
        forgottenIsEightAtLeast();
        crowIsWhatPlainIsNot();
        thoughtIsHalfCut();
        hearsayIsEightAtLeast();
        daysLate();
        tidingsAreCut();
        tidingsOfNothingLikelyStay();
        lateTidingsGrowOld();
        birdZeroComesFirst();
        oneTidingEach();
        noTiding();
        whatWasToldIsGone();
        whatIsRefusedLeavesWhatWasTold();
        daysBeginAtZero();
        check.end();
    }

    /** "LANDS 0 to n less 1 (n 1 .. 6; 4 at first)". */
    private static void landsAreOneToSix() {
        RavenSupper x = new RavenSupper();
        check.due("4 at first", x.count(0), 4);
        check.due("the last one", x.belief(3, 8), 8);
        check.bad(x, "one behind it", () -> x.belief(4, 8), -2);
        check.due("world(1)", x.world(1), 4);
        check.due("one land", x.belief(0, 8), 8);
        check.bad(x, "no other", () -> x.belief(1, 8), -2);
        check.due("world(6)", x.world(6), 1);
        check.due("six lands", x.belief(5, 8), 8);
        check.bad(x, "no seventh", () -> x.belief(6, 8), -2);
        check.bad(x, "world(0)", () -> x.world(0), -2);
        check.bad(x, "world(7)", () -> x.world(7), -2);
        check.due("still six", x.count(0), 6);
    }

    /** "LAND 0 is home." */
    private static void landZeroIsHome() {
        RavenSupper x = new RavenSupper();
        x.bird(0, 0, 1);
        check.due("no hours off", x.of(0, 4), 0);
        check.due("a bird that reaches no hours", x.about(0, 2), 1);
        x.way(0, 1, 1);
        check.due("there and back is no way home", x.of(0, 4), 0);
        check.due("all else is too far for it", x.about(0, 2), 1);
        check.due("tell(0, 0, 0, true)", x.tell(0, 0, PLAIN, true), 16);
        check.no(x, "tell(0, 1, 0, true)", () -> x.tell(0, 1, PLAIN, true), -3);
    }

    /** "BELIEF b of a LAND: in b of 16 there is WAR (0 .. 16; 8 at first)." */
    private static void beliefsAreOfSixteen() {
        RavenSupper x = new RavenSupper();
        for (int land = 0; land < 4; land++) {
            check.due("8 at first", x.belief(land, 0), 8);
            check.due("0, the least", x.belief(land, 16), 0);
            check.due("16, the most", x.of(land, 0), 16);
            int of = land;
            check.bad(x, "17", () -> x.belief(of, 17), -2);
            check.bad(x, "-1", () -> x.belief(of, -1), -2);
            check.due("16 still", x.of(land, 0), 16);
        }
    }

    /** "QUIET becomes WAR in u of 16, WAR QUIET in d of 16 (0 .. 16 each; 2 and 2 at first)". */
    private static void changesAreOfSixteen() {
        RavenSupper x = new RavenSupper();
        check.due("2 and 2 at first", x.change(2, 0, 16), 202);
        check.due("0 and 16", x.change(2, 16, 0), 16);
        check.due("16 and 0", x.change(2, 16, 16), 1600);
        check.due("16 and 16", x.change(2, 0, 0), 1616);
        check.due("0 and 0", x.change(2, 2, 2), 0);
        check.bad(x, "u of 17", () -> x.change(2, 17, 0), -2);
        check.bad(x, "d of 17", () -> x.change(2, 0, 17), -2);
        check.bad(x, "u of -1", () -> x.change(2, -1, 0), -2);
        check.bad(x, "d of -1", () -> x.change(2, 0, -1), -2);
        check.due("2 and 2 still", x.change(2, 2, 2), 202);
    }

    /** "b times (16 less d), and (16 less b) times u, together by 16 (cut)". */
    private static void aDayIsCut() {
        aDay(16, 0, 0, 16);
        aDay(0, 0, 0, 0);
        aDay(0, 16, 16, 16);
        aDay(16, 16, 16, 0);
        aDay(8, 16, 16, 8);
        aDay(0, 0, 16, 0);
        aDay(16, 16, 0, 16);
        // 15 by 16, 241 by 16, 114 by 16, 142 by 16, 83 by 16, 16 by 16, 15 by 16 once more
        aDay(1, 0, 1, 0);
        aDay(15, 1, 0, 15);
        aDay(7, 1, 1, 7);
        aDay(9, 1, 1, 8);
        aDay(5, 3, 6, 5);
        aDay(0, 1, 9, 1);
        aDay(1, 1, 16, 0);
    }

    private static void aDay(int b, int u, int d, int due) {
        RavenSupper x = new RavenSupper();
        x.belief(1, b);
        x.change(1, u, d);
        String told = b + ", u " + u + ", d " + d;
        check.due("ahead of " + told, x.ahead(1, 1), due);
        x.evening();
        check.due("an evening behind " + told, x.of(1, 0), due);
    }

    /** "then a day goes by in all LANDS". */
    private static void aDayGoesByInAllLands() {
        RavenSupper x = new RavenSupper();
        x.world(6);
        for (int land = 0; land < 6; land++) {
            x.belief(land, 0);
            x.change(land, 10 + land, 0);
        }
        x.tell(0, 0, PLAIN, true);
        x.evening();
        for (int land = 0; land < 6; land++) {
            check.due("land " + land, x.of(land, 0), 10 + land);
        }
    }

    /** "in HOURS (0 .. 9; 0: none; none at first)". */
    private static void noHoursAreNoWay() {
        RavenSupper x = new RavenSupper();
        check.due("none at first", x.count(2), 0);
        check.due("9, the most", x.way(0, 1, 9), 0);
        check.due("far", x.of(1, 4), 9);
        check.bad(x, "10", () -> x.way(0, 1, 10), -2);
        check.bad(x, "-1", () -> x.way(0, 1, -1), -2);
        check.due("1, the least that is one", x.way(0, 1, 1), 9);
        check.due("far", x.of(1, 4), 1);
        check.due("0", x.way(0, 1, 0), 1);
        check.due("none", x.count(2), 0);
        check.due("no hours", x.hours(0, 1), 0);
        check.due("not far, but unreached", x.of(1, 4), -1);
        check.due("none again", x.way(0, 1, 0), 0);
        check.bad(x, "alike", () -> x.way(2, 2, 1), -2);
        check.bad(x, "alike", () -> x.hours(2, 2), -2);
    }

    /** "WAYS between two LANDS, both ways". */
    private static void waysGoBothWays() {
        RavenSupper x = new RavenSupper();
        x.way(3, 0, 2);
        check.due("hours(0, 3)", x.hours(0, 3), 2);
        check.due("hours(3, 0)", x.hours(3, 0), 2);
        check.due("one way", x.count(2), 1);
        check.due("far", x.of(3, 4), 2);
        check.due("told the other way", x.way(0, 3, 5), 2);
        check.due("hours(3, 0)", x.hours(3, 0), 5);
        check.due("one way", x.count(2), 1);
        for (int a = 0; a < 4; a++) {
            for (int b = 0; b < a; b++) {
                x.way(a, b, 1);
            }
        }
        check.due("all ways", x.count(2), 6);
    }

    /** "FAR of a LAND: the fewest HOURS from home by WAYS." */
    private static void farIsTheFewestHours() {
        RavenSupper x = new RavenSupper();
        x.way(0, 1, 9);
        x.way(0, 2, 4);
        x.way(2, 1, 4);
        check.due("4 and 4 are fewer than 9", x.of(1, 4), 8);
        x.way(2, 1, 5);
        check.due("4 and 5 are as many", x.of(1, 4), 9);
        x.way(2, 1, 6);
        check.due("9 are fewer than 4 and 6", x.of(1, 4), 9);
        x.world(6);
        for (int land = 1; land < 6; land++) {
            x.way(land - 1, land, 9);
        }
        check.due("the farthest", x.of(5, 4), 45);
        x.world(6);
        int[] round = {0, 5, 2, 4, 1, 3};
        for (int i = 1; i < 6; i++) {
            x.way(round[i - 1], round[i], i);
        }
        check.due("by four others", x.of(3, 4), 1 + 2 + 3 + 4 + 5);
        check.due("by three others", x.of(1, 4), 1 + 2 + 3 + 4);
    }

    /** "FAR (4; NONE)": where no way leads there is none. */
    private static void farWithoutAWay() {
        RavenSupper x = new RavenSupper();
        x.way(2, 3, 1);
        x.bird(0, 40, 9);
        check.asks(x, "no way at all", () -> x.of(1, 4), -1);
        check.asks(x, "a way, but not from home", () -> x.of(3, 4), -1);
        check.asks(x, "not reached", () -> x.about(0, 2), 1);
        x.way(0, 2, 9);
        check.asks(x, "a way from home", () -> x.of(3, 4), 10);
    }

    /** "LANDS of which twice FAR is no more" than it REACHES. */
    private static void reachedIfTwiceFarIsNoMore() {
        RavenSupper x = new RavenSupper();
        x.way(0, 1, 6);
        check.due("12 at first, twice 6", x.about(0, 2), 3);
        x.way(0, 1, 7);
        check.due("12 at first, twice 7", x.about(0, 2), 1);
        x.bird(0, 14, 4);
        check.due("14, twice 7", x.about(0, 2), 3);
        x.bird(0, 13, 4);
        check.due("13, twice 7", x.about(0, 2), 1);
        x.way(0, 1, 1);
        x.bird(0, 2, 4);
        check.due("2, twice 1", x.about(0, 2), 3);
        x.bird(0, 1, 4);
        check.due("1, twice 1", x.about(0, 2), 1);
        x.bird(0, 40, 4);
        x.way(0, 1, 9);
        x.way(1, 2, 9);
        x.way(2, 3, 2);
        check.due("40, twice 20", x.about(0, 2), 15);
        x.way(2, 3, 3);
        check.due("40, twice 21", x.about(0, 2), 7);
        check.no(x, "sure(0, 3, 0, 0)", () -> x.sure(0, 3, PLAIN, 0), -3);
        check.no(x, "worth(0, 3)", () -> x.worth(0, 3), -200000);
    }

    /** A bird that forgets so much tells of land 1, so far. */
    private static void sure(int far, int forgets, int kind, int due) {
        RavenSupper x = new RavenSupper();
        x.way(0, 1, Math.min(far, 9));
        int land = 1;
        if (far > 9) {
            x.way(1, 2, far - 9);
            land = 2;
        }
        x.bird(1, 40, forgets);
        check.due("sure of " + kind + ", far " + far + " by " + forgets, x.sure(1, land, kind, 0), due);
        check.due("tell of " + kind + ", far " + far + " by " + forgets, x.tell(1, land, kind, true), due);
    }

    /** "by FAR of its LAND (of home 0) by FORGETS (cut: f)". */
    private static void forgottenByFarIsCut() {
        sure(8, 9, PLAIN, 16);
        sure(9, 9, PLAIN, 15);
        sure(17, 9, PLAIN, 15);
        sure(18, 9, PLAIN, 14);
        sure(3, 4, PLAIN, 16);
        sure(4, 4, PLAIN, 15);
        sure(1, 1, PLAIN, 15);
        RavenSupper x = new RavenSupper();
        for (int forgets = 1; forgets <= 9; forgets++) {
            x.bird(0, 0, forgets);
            check.due("of home 0", x.sure(0, 0, PLAIN, 0), 16);
        }
        check.bad(x, "forgets 0", () -> x.bird(0, 0, 0), -2);
        check.bad(x, "forgets 10", () -> x.bird(0, 0, 10), -2);
    }

    /** "PLAIN: 16 less f, 8 at least". */
    private static void plainIsEightAtLeast() {
        sure(7, 1, PLAIN, 9);
        sure(8, 1, PLAIN, 8);
        sure(9, 1, PLAIN, 8);
        sure(18, 1, PLAIN, 8);
        sure(9, 1, LATE, 8);
        sure(7, 1, LATE, 9);
    }

    /** "FORGOTTEN (under PLAIN): 2 less than PLAIN, 8 at least". */
    private static void forgottenIsEightAtLeast() {
        sure(5, 1, FORGOTTEN, 9);
        sure(6, 1, FORGOTTEN, 8);
        sure(7, 1, FORGOTTEN, 8);
        sure(9, 1, FORGOTTEN, 8);
    }

    /** "CROW (under PLAIN): 16 less PLAIN". */
    private static void crowIsWhatPlainIsNot() {
        sure(1, 2, CROW, 0);
        sure(2, 2, CROW, 1);
        sure(7, 1, CROW, 7);
        sure(8, 1, CROW, 8);
        sure(18, 1, CROW, 8);
    }

    /** "THOUGHT (under FORGOTTEN): half of what FORGOTTEN is above 8 (cut), and 8". */
    private static void thoughtIsHalfCut() {
        sure(1, 2, THOUGHT, 8 + 3);
        sure(1, 1, THOUGHT, 8 + 2);
        sure(2, 1, THOUGHT, 8 + 2);
        sure(5, 1, THOUGHT, 8);
        sure(4, 1, THOUGHT, 8 + 1);
        sure(9, 1, THOUGHT, 8);
    }

    /** "HEARSAY (under LATE): 3 less than LATE, 8 at least". */
    private static void hearsayIsEightAtLeast() {
        sure(1, 2, HEARSAY, 13);
        sure(4, 1, HEARSAY, 9);
        sure(5, 1, HEARSAY, 8);
        sure(6, 1, HEARSAY, 8);
        sure(9, 1, HEARSAY, 8);
    }

    /** PLAIN "0", LATE "1 more", HEARSAY "twice what LATE is, and 1", others as what they are under. */
    private static void daysLate() {
        RavenSupper x = new RavenSupper();
        int[] due = {0, 1, 0, 0, 0, 3};
        for (int kind = PLAIN; kind <= HEARSAY; kind++) {
            int told = kind;
            check.asks(x, "sure(0, 0, " + kind + ", 1)", () -> x.sure(0, 0, told, 1), due[kind]);
        }
        check.bad(x, "another kind", () -> x.sure(0, 0, 6, 1), -2);
        check.bad(x, "another kind", () -> x.sure(0, 0, -1, 1), -2);
    }

    /** What is believed behind a tiding, if a day leaves it as it is. */
    private static void tiding(int b, int far, int kind, boolean war, int due) {
        RavenSupper x = new RavenSupper();
        x.way(0, 1, 9);
        if (far > 0) {
            x.way(0, 1, far);
        }
        int land = far > 0 ? 1 : 0;
        x.change(land, 0, 0);
        x.belief(land, b);
        x.bird(0, 40, 1);
        x.tell(0, land, kind, war);
        check.due("not before evening", x.of(land, 0), b);
        x.evening();
        check.due("belief " + b + " behind " + kind + " from " + far + ", " + war, x.of(land, 0), due);
    }

    /** "16 times b times w by (b times w, and (16 less b) times (16 less w), together) (cut ..)". */
    private static void tidingsAreCut() {
        // w 13: 1664 by 128; 832 by 88; 208 by 28, cut; 3120 by 198, cut
        tiding(8, 3, PLAIN, true, 13);
        tiding(4, 3, PLAIN, true, 9);
        tiding(1, 3, PLAIN, true, 16 * 13 / (13 + 45));
        tiding(15, 3, PLAIN, true, 15);
        // 3 in place of 13: 384 by 128; 192 by 168, cut; 720 by 58, cut
        tiding(8, 3, PLAIN, false, 3);
        tiding(4, 3, PLAIN, false, 1);
        tiding(15, 3, PLAIN, false, 12);
        // a crow spoke first: as if the other was told
        tiding(8, 3, CROW, true, 3);
        tiding(8, 3, CROW, false, 13);
        // sure by 8: nothing is learnt
        for (int b = 0; b <= 16; b++) {
            tiding(b, 9, PLAIN, true, b);
            tiding(b, 9, PLAIN, false, b);
        }
    }

    /** "(cut; if that is 0, b stays)". */
    private static void tidingsOfNothingLikelyStay() {
        tiding(0, 0, PLAIN, true, 0);
        tiding(16, 0, PLAIN, false, 16);
        tiding(16, 0, CROW, true, 16);
        tiding(0, 0, CROW, false, 0);
        // and where it is not 0
        tiding(1, 0, PLAIN, true, 16);
        tiding(15, 0, PLAIN, false, 0);
        tiding(0, 0, PLAIN, false, 0);
        tiding(16, 0, PLAIN, true, 16);
        tiding(16, 3, PLAIN, false, 16);
        tiding(0, 3, PLAIN, true, 0);
    }

    /** "Behind it so many days go over that BELIEF as it is LATE." */
    private static void lateTidingsGrowOld() {
        int[] days = {0, 1, 0, 0, 0, 3};
        for (int kind = PLAIN; kind <= HEARSAY; kind++) {
            RavenSupper x = new RavenSupper();
            x.belief(0, 16);
            x.change(0, 0, 8);
            x.belief(1, 16);
            x.change(1, 0, 8);
            x.tell(0, 0, kind, true);
            x.evening();
            // war for sure, then halved each day; the evening's own day is the last one
            check.due("home, " + days[kind] + " days late", x.of(0, 0), 16 >> days[kind] + 1);
            check.due("not over other lands", x.of(1, 0), 8);
        }
    }

    /** "what BIRD 0, then what BIRD 1 told .. comes to BELIEFS". */
    private static void birdZeroComesFirst() {
        RavenSupper x = new RavenSupper();
        x.change(0, 0, 0);
        // war, 16; then quiet of what is sure to be war: it stays
        x.tell(1, 0, PLAIN, false);
        x.tell(0, 0, PLAIN, true);
        x.evening();
        check.due("bird 0's word stays", x.of(0, 0), 16);
        x.belief(0, 8);
        x.tell(1, 0, PLAIN, true);
        x.tell(0, 0, PLAIN, false);
        x.evening();
        check.due("bird 0's word stays", x.of(0, 0), 0);
    }

    /** "(one tiding each, or none)". */
    private static void oneTidingEach() {
        RavenSupper x = new RavenSupper();
        x.change(0, 0, 0);
        x.change(1, 0, 0);
        x.way(0, 1, 1);
        x.tell(0, 0, PLAIN, true);
        check.due("in place of what it told", x.tell(0, 1, PLAIN, true), 16);
        check.due("of land 1", x.about(0, 3), 1);
        check.due("bird 1 of none", x.about(1, 3), -1);
        x.evening();
        check.due("home is as it was", x.of(0, 0), 8);
        check.due("land 1", x.of(1, 0), 16);
        x.belief(0, 8);
        x.tell(1, 0, PLAIN, true);
        x.tell(1, 0, PLAIN, false);
        x.evening();
        check.due("the other thing of one land", x.of(0, 0), 0);
    }

    private static void noTiding() {
        RavenSupper x = new RavenSupper();
        x.belief(2, 0);
        check.due("evening()", x.evening(), 1);
        check.due("a day alone", x.of(2, 0), 2);
        check.due("a day alone", x.of(1, 0), 8);
    }

    private static RavenSupper bothTold() {
        RavenSupper x = new RavenSupper();
        x.way(0, 1, 1);
        x.tell(0, 1, FORGOTTEN, true);
        x.tell(1, 0, HEARSAY, true);
        return x;
    }

    private static void bothTell(String behind, RavenSupper x, int first, int second) {
        check.due("bird 0 behind " + behind, x.about(0, 3), first);
        check.due("bird 1 behind " + behind, x.about(1, 3), second);
    }

    /** "(What was told for an EVENING is gone behind it, and when a WAY, a BIRD is told.)" */
    private static void whatWasToldIsGone() {
        RavenSupper x = bothTold();
        x.evening();
        bothTell("an evening", x, -1, -1);
        RavenSupper y = bothTold();
        y.way(2, 3, 1);
        bothTell("a way", y, -1, -1);
        RavenSupper z = bothTold();
        z.way(0, 1, 1);
        bothTell("the same way once more", z, -1, -1);
        RavenSupper v = bothTold();
        v.bird(1, 12, 4);
        bothTell("bird 1", v, -1, -1);
        RavenSupper w = bothTold();
        w.bird(0, 40, 1);
        bothTell("bird 0", w, -1, -1);
        RavenSupper fresh = new RavenSupper();
        fresh.way(0, 1, 1);
        fresh.bird(0, 40, 1);
        check.due("neither kind nor war is left", w.digest(), fresh.digest());
    }

    /** A call that is refused, or tells no way and no bird, leaves what was told. */
    private static void whatIsRefusedLeavesWhatWasTold() {
        RavenSupper x = bothTold();
        long digest = x.digest();
        x.way(0, 0, 1);
        x.way(0, 1, 10);
        x.bird(0, 41, 1);
        x.bird(2, 1, 1);
        x.tell(0, 2, PLAIN, true);
        x.tell(1, 1, 6, true);
        x.read();
        x.undo();
        check.due("all as it was", x.digest(), digest);
        x.belief(0, 3);
        x.change(1, 5, 5);
        x.crow(0, 0, true);
        x.hush();
        x.type('w');
        x.clear();
        x.image(0);
        bothTell("belief and others", x, 1, 0);
        x.world(4);
        bothTell("a new world", x, -1, -1);
        x.from(0);
        bothTell("an image", x, 1, 0);
    }

    /** "DAYS have numbers, 0 at first." */
    private static void daysBeginAtZero() {
        RavenSupper x = new RavenSupper();
        check.due("0 at first", x.count(1), 0);
        check.due("evening()", x.evening(), 1);
        check.due("the day", x.count(1), 1);
        check.due("evening()", x.evening(), 2);
        x.world(4);
        check.due("0 in a new world", x.count(1), 0);
        check.due("evening()", x.evening(), 1);
    }
}
