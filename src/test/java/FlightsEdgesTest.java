/**
 * The edges that row 2 of the Terms names: ahead, worth, send, plan, noon, rounds, liars, what was left out.
 * Each method is a sentence of it; what is due was worked out by hand from its words.
 */
final class FlightsEdgesTest {
    private static final int NONE = -1, MOST = Integer.MAX_VALUE;
    private static final Check check = new Check();

    public static void main(String[] args) {
        aheadIsBeliefBehindDays();
        doubtIsTheLesser();
        worthOfNoDoubt();
        worthMayBeBelowZero();
        worthWhereNothingIsLikely();
        worthIsOfWhatIsReached();
        sendToNoLand();
        notBothToOne();
        staysIfNothingIsGained();
        ofLikeOnesTheFirst();
        stayingComesBehindAll();
        sendToWhatEachReaches();
        thirdGainsNothing();
        thirdIsAsBirdZero();
        thirdIsNotToOneLandWithAnother();
        planOfOneOrTwoEvenings();
        planWarFromEight();
        planOfNoLand();
        planOfLikeOnesTheFirst();
        planLooksToTheLast();
        planIsOfToldLands();
        noonIsStrict();
        noonFromNoneToAll();
        mixedIsStrict();
        mixedFromNoneToAll();
        roundOfHomeToo();
        roundOverAndOverAgain();
        roundInAnyDays();
        roundOfNone();
        roundIsOfBirdZero();
        roundHasSoManyDays();
        liarsWithoutCaws();
        liarsOfEachLand();
        liarsOfNoSet();
        liarsAreAllOrNone();
        cawsAreEightAtMost();
        leftOutOfNoLand();
        leftOutOfAllLands();
        leftOutMaybeTheSame();
        check.end();
    }

    /** Land 1 is so far, and land 2 as far; both birds reach them and forget f by hours. */
    private static RavenSupper lands(int far) {
        RavenSupper x = new RavenSupper();
        x.way(0, 1, far);
        x.way(0, 2, far);
        x.bird(0, 40, 1);
        x.bird(1, 40, 1);
        return x;
    }

    /** "AHEAD of a LAND: BELIEF behind m days (0 .. 30)." */
    private static void aheadIsBeliefBehindDays() {
        RavenSupper x = new RavenSupper();
        x.belief(3, 16);
        x.change(3, 0, 8);
        int[] due = {16, 8, 4, 2, 1, 0, 0};
        for (int m = 0; m < due.length; m++) {
            int days = m;
            check.asks(x, "halved each day, " + m, () -> x.ahead(3, days), due[m]);
        }
        x.change(3, 1, 0);
        x.belief(3, 0);
        check.asks(x, "one more a day, then cut", () -> x.ahead(3, 30), 1);
        x.change(3, 16, 16);
        check.asks(x, "turned 29 times", () -> x.ahead(3, 29), 16);
        check.asks(x, "turned 30 times", () -> x.ahead(3, 30), 0);
        check.bad(x, "31 days", () -> x.ahead(3, 31), -2);
        check.bad(x, "-1 days", () -> x.ahead(3, -1), -2);
        x.tell(0, 0, 0, true);
        check.asks(x, "what is told comes at evening alone", () -> x.ahead(0, 0), 8);
    }

    /** "DOUBT: the lesser of b and 16 less b." */
    private static void doubtIsTheLesser() {
        RavenSupper x = new RavenSupper();
        int[][] due = {{0, 0}, {1, 1}, {7, 7}, {8, 8}, {9, 7}, {15, 1}, {16, 0}};
        for (int[] each : due) {
            x.belief(1, each[0]);
            check.asks(x, "doubt of " + each[0], () -> x.of(1, 3), each[1]);
        }
    }

    private static void worth(int b, int far, int due) {
        RavenSupper x = lands(Math.max(far, 1));
        int land = far == 0 ? 0 : 1;
        x.belief(land, b);
        check.asks(x, "worth of " + b + ", far " + far, () -> x.worth(1, land), due);
    }

    private static void worthOfNoDoubt() {
        for (int far = 0; far <= 9; far++) {
            worth(0, far, 0);
            worth(16, far, 0);
        }
        for (int b = 0; b <= 8; b++) {
            worth(b, 0, 256 * b);
            worth(16 - b, 0, 256 * b);
        }
    }

    /** "(it may be below 0)". */
    private static void worthMayBeBelowZero() {
        // w 10: war in 148, behind it 14; quiet in 108, behind it 11
        worth(13, 6, 256 * 3 - 2 * 148 - 5 * 108);
        // w 9: war in 136, behind it 12, cut; quiet in 120, behind it 11, cut
        worth(12, 7, 256 * 4 - 4 * 136 - 5 * 120);
        // w 8: nothing is learnt
        for (int b = 0; b <= 16; b++) {
            worth(b, 8, 0);
            worth(b, 9, 0);
        }
    }

    /** "(cut; if that is 0, b stays)", told of what is sure. */
    private static void worthWhereNothingIsLikely() {
        // w 16, war for sure: quiet is told in none of 256
        worth(16, 0, 0);
        // w 15: war in 30, behind it 8; quiet in 226, behind it 0, cut
        worth(1, 1, 256 - 8 * 30);
        // w 15: war in 226, behind it 15, cut; quiet in 30, behind it 8
        worth(15, 1, 256 - 226 - 8 * 30);
    }

    /** "WORTH of a BIRD's flight to a LAND that it REACHES". */
    private static void worthIsOfWhatIsReached() {
        RavenSupper x = lands(6);
        x.bird(0, 12, 1);
        check.asks(x, "twice 6 is 12", () -> x.worth(0, 1), 256 * 8 - 2 * (6 * 128));
        x.bird(0, 11, 1);
        check.no(x, "and no more than 11", () -> x.worth(0, 1), -200000);
        check.no(x, "no way", () -> x.worth(1, 3), -200000);
        check.bad(x, "no land", () -> x.worth(1, 4), -100000);
        check.bad(x, "no bird", () -> x.worth(2, 1), -100000);
    }

    private static void send(RavenSupper x, int lands, int pair, int much) {
        check.asks(x, "send(" + lands + ", 0)", () -> x.send(lands, 0), pair);
        check.asks(x, "send(" + lands + ", 1)", () -> x.send(lands, 1), much);
    }

    private static void sendToNoLand() {
        send(new RavenSupper(), 0, 77, 0);
        // told lands that are not reached are none to fly to
        send(new RavenSupper(), 14, 77, 0);
    }

    /** "each BIRD flies to one of them that it REACHES, not both to one, or stays". */
    private static void notBothToOne() {
        send(new RavenSupper(), 1, 7, 2048);
        // w 15 each
        send(lands(1), 2, 17, 2048 - 256);
        send(lands(1), 6, 12, 2 * (2048 - 256));
        RavenSupper x = lands(1);
        x.bird(0, 40, 1);
        x.bird(1, 40, 9);
        check.due("bird 1 is surer", x.sure(1, 1, 0, 0), 16);
        send(x, 2, 71, 2048);
    }

    /** "or stays (WORTH 0)". */
    private static void staysIfNothingIsGained() {
        RavenSupper x = lands(6);
        x.belief(1, 13);
        x.belief(2, 13);
        send(x, 6, 77, 0);
        x.belief(2, 8);
        send(x, 6, 27, x.worth(0, 2));
    }

    /** "of like ones the first (BIRD 0's LAND .. then BIRD 1's)". */
    private static void ofLikeOnesTheFirst() {
        RavenSupper x = lands(1);
        x.way(0, 3, 1);
        send(x, 14, 12, 2 * 1792);
        send(x, 12, 23, 2 * 1792);
        send(x, 10, 13, 2 * 1792);
        // home is worth more, by whichever bird
        send(x, 9, 3, 2048 + 1792);
    }

    /** "(.. staying behind all ..)": to fly for nothing comes ahead of staying. */
    private static void stayingComesBehindAll() {
        RavenSupper x = lands(1);
        x.belief(1, 0);
        x.belief(2, 16);
        send(x, 2, 17, 0);
        send(x, 4, 27, 0);
        send(x, 6, 12, 0);
        RavenSupper y = lands(9);
        send(y, 2, 17, 0);
        y.bird(0, 0, 1);
        send(y, 2, 71, 0);
        y.bird(1, 0, 1);
        send(y, 2, 77, 0);
    }

    private static void sendToWhatEachReaches() {
        RavenSupper x = lands(5);
        x.bird(0, 9, 1);
        send(x, 6, 71, x.worth(1, 1));
        send(x, 7, 1, 2048 + x.worth(1, 1));
        x.bird(0, 10, 1);
        x.bird(1, 9, 1);
        send(x, 6, 17, x.worth(0, 1));
        send(x, 7, 10, 2048 + x.worth(0, 1));
    }

    private static void third(RavenSupper x, int lands, int due) {
        check.asks(x, "third(" + lands + ")", () -> x.third(lands), due);
    }

    /** "THIRD: by how much more with a third bird": it may stay, too. */
    private static void thirdGainsNothing() {
        third(new RavenSupper(), 0, 0);
        third(new RavenSupper(), 15, 0);
        RavenSupper x = lands(6);
        x.belief(2, 13);
        check.due("it would lose", x.worth(0, 2) < 0 ? 1 : 0, 1);
        third(x, 7, 0);
        x.belief(2, 16);
        third(x, 7, 0);
    }

    /** "a third bird that is as BIRD 0". */
    private static void thirdIsAsBirdZero() {
        RavenSupper x = lands(4);
        third(x, 7, x.worth(0, 2));
        x.bird(1, 0, 1);
        third(x, 6, x.worth(0, 2));
        x.bird(1, 40, 1);
        x.bird(0, 0, 1);
        third(x, 6, 0);
        third(x, 7, 0);
        // bird 0 is surer than bird 1: the third one flies in its place
        x.bird(0, 40, 9);
        check.due("send", x.send(6, 1), 2048 + x.worth(1, 2));
        third(x, 6, 2048 - x.worth(1, 2));
    }

    private static void thirdIsNotToOneLandWithAnother() {
        RavenSupper x = lands(4);
        third(x, 2, 0);
        third(x, 6, 0);
        third(x, 1, 0);
        third(x, 3, 0);
    }

    private static void plan(RavenSupper x, int m, int lands, int doubt, int... pairs) {
        check.asks(x, "plan(" + m + ", " + lands + ", NONE)", () -> x.plan(m, lands, NONE), doubt);
        for (int i = 0; i < pairs.length; i++) {
            int evening = i;
            check.asks(x, "plan(" + m + ", " + lands + ", " + i + ")", () -> x.plan(m, lands, evening), pairs[i]);
        }
    }

    /** "PLAN of m (1, 2) evenings"; "-5: not so many". */
    private static void planOfOneOrTwoEvenings() {
        RavenSupper x = new RavenSupper();
        check.bad(x, "plan(0, 1, 0)", () -> x.plan(0, 1, 0), -10);
        check.asks(x, "plan(1, 1, 0)", () -> x.plan(1, 1, 0), 7);
        check.asks(x, "plan(1, 1, 1)", () -> x.plan(1, 1, 1), -5);
        check.asks(x, "plan(1, 1, MOST)", () -> x.plan(1, 1, MOST), -5);
        check.asks(x, "plan(2, 1, 1)", () -> x.plan(2, 1, 1), 7);
        check.asks(x, "plan(2, 1, 2)", () -> x.plan(2, 1, 2), -5);
        check.asks(x, "plan(2, 1, MOST)", () -> x.plan(2, 1, MOST), -5);
        check.asks(x, "plan(2, 1, NONE)", () -> x.plan(2, 1, -1), 2);
        check.bad(x, "plan(2, 1, -2)", () -> x.plan(2, 1, -2), -10);
        check.bad(x, "plan(3, 1, 0)", () -> x.plan(3, 1, 0), -10);
    }

    /** "a PLAIN tiding of what is likelier (WAR, if b is 8 or more)". */
    private static void planWarFromEight() {
        RavenSupper x = new RavenSupper();
        // in a day war stays war, quiet becomes 8
        x.change(0, 8, 0);
        plan(x, 1, 1, 0, 7);
        x.belief(0, 7);
        // quiet is told: 8 behind the day; untold 11, of doubt 5
        plan(x, 1, 1, 5, 77);
        x.change(0, 0, 8);
        plan(x, 1, 1, 0, 7);
        x.belief(0, 8);
        // war is told: 8 behind the day; untold 4
        plan(x, 1, 1, 4, 77);
        x.belief(0, 9);
        // war is told: 8 behind the day; untold 4, cut
        plan(x, 1, 1, 4, 77);
    }

    private static void planOfNoLand() {
        RavenSupper x = lands(1);
        plan(x, 1, 0, 0, 77);
        plan(x, 2, 0, 0, 77, 77);
        RavenSupper y = new RavenSupper();
        // none of them is reached
        plan(y, 1, 14, 24, 77);
        plan(y, 2, 14, 24, 77, 77);
    }

    /** "of like ones the first (evening by evening as in SEND)". */
    private static void planOfLikeOnesTheFirst() {
        RavenSupper x = lands(1);
        x.bird(0, 40, 9);
        x.bird(1, 40, 9);
        for (int land = 0; land < 4; land++) {
            x.change(land, 0, 0);
        }
        // both are sure of what they see: two lands each evening are without doubt for good
        plan(x, 1, 7, 8, 1);
        plan(x, 2, 7, 0, 1, 2);
        plan(x, 1, 6, 0, 12);
        plan(x, 2, 6, 0, 12, 12);
        plan(x, 1, 2, 0, 17);
        plan(x, 2, 2, 0, 17, 17);
        x.belief(1, 16);
        // nothing is to be gained: to fly comes ahead of staying
        plan(x, 1, 2, 0, 17);
        plan(x, 2, 2, 0, 17, 17);
    }

    /** "the row by which DOUBTS of the told LANDS together are least at last". */
    private static void planLooksToTheLast() {
        RavenSupper x = new RavenSupper();
        // war turns quiet, quiet becomes 8: behind a tiding of war 0, untold 4
        x.change(0, 8, 16);
        plan(x, 1, 1, 0, 7);
        // behind any tiding 8 at last, untold 6
        plan(x, 2, 1, 6, 77, 77);
        x.belief(0, 16);
        plan(x, 1, 1, 0, 7);
        plan(x, 2, 1, 8, 7, 7);
        x.change(0, 16, 16);
        x.belief(0, 15);
        // 16 and 0 in turn behind a tiding at either evening
        plan(x, 2, 1, 0, 7, 7);
    }

    /** "by told LANDS": to others none flies, and their doubt is not counted. */
    private static void planIsOfToldLands() {
        RavenSupper x = lands(1);
        x.change(0, 0, 0);
        x.change(1, 0, 0);
        x.change(2, 0, 0);
        plan(x, 1, 4, 1, 27);
        plan(x, 1, 5, 1, 2);
        plan(x, 1, 1, 0, 7);
        plan(x, 1, 8, 8, 77);
        // what was told for this evening is no part of it: behind quiet there would be no doubt
        x.tell(0, 2, 0, false);
        plan(x, 1, 4, 1, 27);
        plan(x, 2, 4, 1, 27, 27);
    }

    private static void noon(int g, int l, int due) {
        RavenSupper x = new RavenSupper();
        check.asks(x, "noon(" + g + ", " + l + ")", () -> x.noon(g, l), due);
    }

    /** "if it gains more .. than it loses": as much is not more. */
    private static void noonIsStrict() {
        noon(8, 8, 8);
        noon(9, 8, 9);
        noon(8, 9, 8);
        noon(1, 15, 1);
        noon(1, 14, 2);
        noon(15, 1, 15);
        noon(16, 1, 16);
        noon(3, 13, 3);
        noon(99, 99, 8);
    }

    /** "in p of 16"; "(g, 0 .. 99 ..) .. (l, 0 .. 99 ..)". */
    private static void noonFromNoneToAll() {
        noon(0, 0, 0);
        noon(0, 99, 0);
        noon(1, 0, 16);
        noon(99, 0, 16);
        noon(99, 1, 16);
        noon(1, 99, 1);
        RavenSupper x = new RavenSupper();
        check.bad(x, "noon(100, 99)", () -> x.noon(100, 99), -2);
        check.bad(x, "noon(99, 100)", () -> x.noon(99, 100), -2);
        check.bad(x, "noon(-1, 0)", () -> x.noon(-1, 0), -2);
        check.bad(x, "noon(0, -1)", () -> x.noon(0, -1), -2);
    }

    private static void mixed(int g, int l, int otherG, int otherL, int due) {
        RavenSupper x = new RavenSupper();
        String call = "mixed(" + g + ", " + l + ", " + otherG + ", " + otherL + ")";
        check.asks(x, call, () -> x.mixed(g, l, otherG, otherL), due);
    }

    /** "the least p by which neither makes WAR; none". */
    private static void mixedIsStrict() {
        mixed(8, 8, 8, 8, 8);
        mixed(9, 7, 7, 9, 9);
        mixed(9, 7, 8, 8, NONE);
        mixed(8, 8, 9, 7, NONE);
        mixed(1, 15, 15, 1, 1);
        mixed(1, 15, 16, 1, NONE);
        mixed(15, 1, 1, 15, 15);
        mixed(16, 1, 1, 15, NONE);
    }

    private static void mixedFromNoneToAll() {
        mixed(0, 0, 0, 0, 0);
        mixed(0, 99, 99, 0, 0);
        mixed(99, 0, 0, 0, 16);
        mixed(99, 1, 0, 99, 16);
        mixed(99, 0, 1, 99, NONE);
        mixed(1, 99, 99, 0, NONE);
        mixed(99, 99, 99, 99, 8);
        mixed(1, 99, 1, 99, 1);
    }

    /** The first row, or NONE, whichever day is asked. */
    private static void round(RavenSupper x, int m, int lands, int k, int... due) {
        for (int i = 0; i <= m; i++) {
            int day = i;
            int answer = due.length == 0 ? NONE : i < m ? due[i] : -5;
            check.asks(x, "round(" + m + ", " + lands + ", " + k + ", " + i + ")", () -> x.round(m, lands, k, day), answer);
        }
    }

    /** "a LAND that it REACHES (home, too) each day"; "the first row (LANDS rising)". */
    private static void roundOfHomeToo() {
        RavenSupper x = new RavenSupper();
        round(x, 1, 1, 1, 0);
        round(x, 5, 1, 1, 0, 0, 0, 0, 0);
        round(x, 1, 0, 1, 0);
        round(x, 5, 0, 12, 0, 0, 0, 0, 0);
        RavenSupper y = lands(1);
        round(y, 2, 0, 1, 0, 0);
        round(y, 2, 2, 2, 0, 1);
        round(y, 3, 7, 3, 0, 1, 2);
        round(y, 2, 4, 12, 0, 2);
        round(y, 1, 4, 1, 2);
    }

    /** "each day, over and over again": the days behind the last are the first ones. */
    private static void roundOverAndOverAgain() {
        RavenSupper x = lands(1);
        round(x, 3, 2, 2, 0, 1, 1);
        round(x, 5, 2, 2, 0, 1, 0, 1, 1);
        round(x, 4, 2, 3, 0, 0, 1, 1);
        round(x, 5, 2, 3, 0, 0, 1, 0, 1);
        round(x, 3, 6, 2);
        round(x, 4, 6, 2, 1, 2, 1, 2);
        round(x, 5, 6, 2);
        round(x, 4, 6, 3, 1, 1, 2, 2);
    }

    /** "seen at least once in any k (1 .. 12) days one behind the other". */
    private static void roundInAnyDays() {
        RavenSupper x = lands(1);
        round(x, 3, 2, 1, 1, 1, 1);
        round(x, 3, 6, 1);
        round(x, 3, 7, 2);
        round(x, 3, 7, 3, 0, 1, 2);
        round(x, 4, 7, 3);
        round(x, 4, 7, 4, 0, 0, 1, 2);
        round(x, 4, 7, 12, 0, 0, 1, 2);
        check.bad(x, "round(4, 7, 13, 0)", () -> x.round(4, 7, 13, 0), -10);
        check.bad(x, "round(4, 7, 0, 0)", () -> x.round(4, 7, 0, 0), -10);
        check.bad(x, "round(0, 7, 1, 0)", () -> x.round(0, 7, 1, 0), -10);
        check.bad(x, "round(6, 7, 12, 0)", () -> x.round(6, 7, 12, 0), -10);
        x.world(6);
        for (int land = 1; land < 6; land++) {
            x.way(0, land, 1);
        }
        round(x, 5, 31, 5, 0, 1, 2, 3, 4);
        round(x, 5, 31, 4);
        round(x, 5, 63, 12);
    }

    /** "none": whatever day (0 on) is asked. */
    private static void roundOfNone() {
        RavenSupper x = new RavenSupper();
        for (int i : new int[] {0, 1, 4, 5, MOST}) {
            check.asks(x, "no way to land 1, " + i, () -> x.round(1, 2, 1, i), NONE);
            check.asks(x, "no way to land 3, " + i, () -> x.round(5, 9, 12, i), NONE);
        }
        check.bad(x, "but not below 0", () -> x.round(1, 2, 1, -1), -10);
    }

    /** "ROUND .. for BIRD 0: a LAND that it REACHES". */
    private static void roundIsOfBirdZero() {
        RavenSupper x = lands(6);
        x.bird(0, 11, 1);
        round(x, 2, 2, 2);
        x.bird(0, 12, 1);
        x.bird(1, 0, 1);
        round(x, 2, 2, 2, 0, 1);
    }

    /** "-5: not so many days." */
    private static void roundHasSoManyDays() {
        RavenSupper x = lands(1);
        for (int days = 1; days <= 5; days++) {
            int m = days;
            check.asks(x, "the last of " + m, () -> x.round(m, 2, m, m - 1), 1);
            check.asks(x, "one more than " + m, () -> x.round(m, 2, m, m), -5);
            check.asks(x, "many more than " + m, () -> x.round(m, 2, m, MOST), -5);
        }
    }

    private static void liars(RavenSupper x, int sets, int inAll) {
        check.asks(x, "liars(0)", () -> x.liars(0), sets);
        check.asks(x, "liars(1)", () -> x.liars(1), inAll);
    }

    /** "sets of liars (bits of 0 to 15)": all of them, if nothing was said. */
    private static void liarsWithoutCaws() {
        RavenSupper x = new RavenSupper();
        liars(x, 16, 0);
        x.crow(3, 3, true);
        x.hush();
        liars(x, 16, 0);
    }

    /** "by which no LAND has both". */
    private static void liarsOfEachLand() {
        for (int land = 0; land < 6; land++) {
            RavenSupper x = new RavenSupper();
            x.world(6);
            x.crow(0, land, true);
            liars(x, 16, 0);
            x.crow(0, land, true);
            liars(x, 16, 0);
            x.crow(3, land, true);
            liars(x, 8, 0);
            x.crow(2, land == 0 ? 5 : 0, false);
            liars(x, 8, 0);
            x.crow(2, land, false);
            liars(x, 4, 0);
        }
    }

    /** "none": "crows in all of them (1; bits; NONE)". */
    private static void liarsOfNoSet() {
        for (int land = 0; land < 4; land++) {
            for (int c = 0; c < 4; c++) {
                RavenSupper x = new RavenSupper();
                x.crow(c, land, false);
                x.crow(c, land, true);
                liars(x, 0, NONE);
            }
        }
        RavenSupper x = new RavenSupper();
        x.crow(0, 1, true);
        x.crow(1, 1, true);
        x.crow(0, 2, true);
        x.crow(1, 2, false);
        liars(x, 0, NONE);
        x.hush();
        liars(x, 16, 0);
    }

    /** The first and the last set: all crows lie, or none does. */
    private static void liarsAreAllOrNone() {
        RavenSupper x = new RavenSupper();
        for (int c = 0; c < 4; c++) {
            x.crow(c, 2, false);
        }
        liars(x, 2, 0);
        x.crow(3, 1, true);
        x.crow(0, 1, true);
        liars(x, 2, 0);
    }

    /** "CAWS of crows are told (8 at most)". */
    private static void cawsAreEightAtMost() {
        RavenSupper x = new RavenSupper();
        for (int caw = 1; caw <= 8; caw++) {
            check.due("crow()", x.crow(0, 0, true), caw);
        }
        check.full(x, "a ninth", () -> x.crow(1, 1, true), -4);
        check.full(x, "a ninth, that was told", () -> x.crow(0, 0, true), -4);
        check.due("hush()", x.hush(), 8);
        check.due("hush()", x.hush(), 0);
        check.due("crow()", x.crow(3, 3, false), 1);
        liars(x, 16, 0);
    }

    private static void leftOut(RavenSupper x, int k, int a, int b, int land, int due) {
        String call = "leftOut(" + k + ", " + a + ", " + b + ", " + land + ")";
        check.asks(x, call, () -> x.leftOut(k, a, b, land), due);
    }

    /** "in k (0 .. 6) LANDS there was a deed": in none, no set has what was told. */
    private static void leftOutOfNoLand() {
        RavenSupper x = new RavenSupper();
        leftOut(x, 0, 0, 0, NONE, 0);
        leftOut(x, 0, 0, 0, 0, 0);
        leftOut(x, 0, 1, 2, 3, 0);
        leftOut(x, 1, 0, 1, NONE, 0);
        leftOut(x, 1, 0, 1, 0, 0);
        check.bad(x, "leftOut(-1, 0, 0, NONE)", () -> x.leftOut(-1, 0, 0, -1), -2);
    }

    private static void leftOutOfAllLands() {
        RavenSupper x = new RavenSupper();
        leftOut(x, 4, 0, 1, NONE, 1);
        leftOut(x, 4, 2, 2, 3, 1);
        leftOut(x, 5, 0, 1, NONE, 0);
        leftOut(x, 6, 0, 0, 0, 0);
        check.bad(x, "leftOut(7, 0, 0, NONE)", () -> x.leftOut(7, 0, 0, -1), -2);
        x.world(6);
        leftOut(x, 6, 0, 5, NONE, 1);
        leftOut(x, 6, 5, 5, 5, 1);
        leftOut(x, 3, 5, 5, NONE, 10);
        x.world(1);
        leftOut(x, 1, 0, 0, NONE, 1);
        leftOut(x, 1, 0, 0, 0, 1);
        leftOut(x, 2, 0, 0, 0, 0);
    }

    /** "(maybe the same)"; "in how many a LAND is". */
    private static void leftOutMaybeTheSame() {
        RavenSupper x = new RavenSupper();
        leftOut(x, 1, 3, 3, NONE, 1);
        leftOut(x, 1, 3, 3, 3, 1);
        leftOut(x, 1, 3, 3, 2, 0);
        leftOut(x, 2, 3, 3, NONE, 3);
        leftOut(x, 2, 3, 3, 2, 1);
        leftOut(x, 2, 3, 0, NONE, 1);
        leftOut(x, 2, 3, 0, 0, 1);
        leftOut(x, 2, 3, 0, 1, 0);
        leftOut(x, 3, 3, 0, NONE, 2);
        leftOut(x, 3, 3, 0, 1, 1);
    }
}
