import java.util.function.Supplier;

/** Promises 17 to 24: where to fly. What is due was worked out by hand or by the words of the document. */
final class FlightsTest {
    private static final int HUGE = Integer.MAX_VALUE, LOW = Integer.MIN_VALUE;
    private static final Check check = new Check();

    public static void main(String[] args) {
        promise17Ahead();
        promise18Worth();
        promise19Send();
        promise19OfLikeOnesTheFirst();
        promise20Third();
        promise21Plan();
        promise21OneLandTwice();
        promise21TwoEvenings();
        promise22Noon();
        promise23Mixed();
        promise24Round();
        promise24Refused();
        check.end();
    }

    /** All are reached: home, land 1 (3 hours), 2 (6), 3 (9). */
    private static RavenSupper lands() {
        RavenSupper x = new RavenSupper();
        x.way(0, 1, 3);
        x.way(1, 2, 3);
        x.way(2, 3, 3);
        x.bird(0, 40, 3);
        x.bird(1, 40, 1);
        return x;
    }

    private static void promise17Ahead() {
        RavenSupper x = new RavenSupper();
        x.belief(1, 16);
        x.change(1, 0, 1);
        int b = 16;
        for (int m = 0; m <= 30; m++) {
            int days = m;
            check.asks(x, "ahead(1, " + m + ")", () -> x.ahead(1, days), b);
            b = b * 15 / 16;
        }
        x.tell(0, 0, 0, true);
        check.asks(x, "no tiding in it", () -> x.ahead(0, 1), 8);
        int[][] wrong = {{4, 0}, {-1, 0}, {0, 31}, {0, -1}, {HUGE, HUGE}, {LOW, 1}};
        for (int[] w : wrong) {
            check.bad(x, "ahead", () -> x.ahead(w[0], w[1]), -2);
        }
    }

    private static void promise18Worth() {
        RavenSupper x = lands();
        check.asks(x, "sure by all", () -> x.worth(0, 0), 2048);
        // w 15: war told in 128, behind it 15; quiet in 128, behind it 1
        check.asks(x, "worth(0, 1)", () -> x.worth(0, 1), 256 * 8 - 128 - 128);
        // w 13 (bird 1)
        check.asks(x, "worth(1, 1)", () -> x.worth(1, 1), 256 * 8 - 3 * 128 - 3 * 128);
        x.belief(1, 4);
        // w 13: war in 88, behind it 9; quiet in 168, behind it 1
        check.asks(x, "worth(1, 1)", () -> x.worth(1, 1), 256 * 4 - 7 * 88 - 168);
        x.belief(3, 13);
        // w 8: told in 128 each, behind it 13 both
        check.asks(x, "nothing gained", () -> x.worth(1, 3), 0);
        x.belief(2, 13);
        // w 10: war in 148, behind it 14; quiet in 108, behind it 11
        check.asks(x, "below 0", () -> x.worth(1, 2), 256 * 3 - 2 * 148 - 5 * 108);
        x.belief(2, 16);
        check.asks(x, "no doubt", () -> x.worth(0, 2), 0);
        x.belief(0, 0);
        check.asks(x, "no doubt", () -> x.worth(0, 0), 0);
        int[][] wrong = {{2, 0}, {-1, 0}, {0, 4}, {0, -1}, {HUGE, LOW}};
        for (int[] w : wrong) {
            check.bad(x, "worth", () -> x.worth(w[0], w[1]), -100000);
        }
        x.bird(0, 17, 1);
        check.no(x, "worth(0, 3)", () -> x.worth(0, 3), -200000);
        x.way(0, 1, 0);
        check.no(x, "worth(1, 1)", () -> x.worth(1, 1), -200000);
    }

    private static void promise19Send() {
        RavenSupper x = lands();
        check.asks(x, "send(15, 0)", () -> x.send(15, 0), 10);
        check.asks(x, "send(15, 1)", () -> x.send(15, 1), x.worth(0, 1) + x.worth(1, 0));
        check.asks(x, "send(9, 0)", () -> x.send(9, 0), 30);
        check.asks(x, "send(0, 0)", () -> x.send(0, 0), 77);
        check.asks(x, "send(0, 1)", () -> x.send(0, 1), 0);
        check.asks(x, "not both to one", () -> x.send(2, 0), 17);
        check.asks(x, "one flies", () -> x.send(2, 1), x.worth(0, 1));
        x.bird(0, 5, 1);
        check.asks(x, "what bird 1 alone reaches", () -> x.send(12, 0), 72);
        x.belief(2, 13);
        x.belief(3, 13);
        check.asks(x, "better to stay", () -> x.send(4, 0), 77);
        int[][] wrong = {{16, 0}, {-1, 0}, {15, 2}, {15, -1}, {HUGE, HUGE}, {LOW, 0}};
        for (int[] w : wrong) {
            check.bad(x, "send", () -> x.send(w[0], w[1]), -2);
        }
        x.world(2);
        check.bad(x, "send(4, 0)", () -> x.send(4, 0), -2);
        x.world(6);
        check.asks(x, "send(63, 0)", () -> x.send(63, 0), 7);
        check.bad(x, "send(64, 0)", () -> x.send(64, 0), -2);
    }

    private static void promise19OfLikeOnesTheFirst() {
        RavenSupper x = new RavenSupper();
        x.way(0, 1, 1);
        x.way(0, 2, 1);
        x.way(0, 3, 1);
        check.asks(x, "all alike", () -> x.send(15, 0), 1);
        check.asks(x, "all alike", () -> x.send(14, 0), 12);
        check.asks(x, "all alike", () -> x.send(12, 0), 23);
        check.asks(x, "bird 0 stays last", () -> x.send(8, 0), 37);
        for (int land = 0; land < 4; land++) {
            x.belief(land, 0);
        }
        check.asks(x, "nothing to gain, lands ahead of staying", () -> x.send(15, 0), 1);
        check.asks(x, "nothing to gain", () -> x.send(4, 0), 27);
    }

    private static void promise20Third() {
        RavenSupper x = lands();
        check.asks(x, "third(15)", () -> x.third(15), x.worth(0, 2));
        check.asks(x, "third(0)", () -> x.third(0), 0);
        check.asks(x, "not two to one", () -> x.third(3), 0);
        check.asks(x, "not two to one", () -> x.third(2), 0);
        // bird 1 gains nothing at land 3; two that are as bird 0 gain at both
        check.asks(x, "third(12)", () -> x.third(12), x.worth(0, 2) + x.worth(0, 3) - x.send(12, 1));
        check.due("and that is something", x.third(12) > 0 ? 1 : 0, 1);
        x.bird(1, 0, 1);
        check.asks(x, "it reaches what bird 0 reaches", () -> x.third(14), x.worth(0, 2));
        x.bird(0, 0, 1);
        x.bird(1, 40, 1);
        check.asks(x, "it reaches no more than bird 0", () -> x.third(14), 0);
        for (int lands : new int[] {16, -1, HUGE, LOW}) {
            check.bad(x, "third", () -> x.third(lands), -2);
        }
    }

    private static void promise21Plan() {
        RavenSupper x = lands();
        for (int land = 0; land < 4; land++) {
            x.change(land, 0, 0);
        }
        // behind a tiding of war: bird 0 at home 16, land 1 15, land 2 14, land 3 13; bird 1 16, 13, 10, 8
        check.asks(x, "plan(1, 15, NONE)", () -> x.plan(1, 15, -1), 1 + 0 + 8 + 8);
        check.asks(x, "plan(1, 15, 0)", () -> x.plan(1, 15, 0), 10);
        check.asks(x, "plan(1, 12, 0)", () -> x.plan(1, 12, 0), 32);
        check.asks(x, "plan(1, 12, NONE)", () -> x.plan(1, 12, -1), 3 + 6);
        check.asks(x, "plan(1, 15, 1)", () -> x.plan(1, 15, 1), -5);
        check.asks(x, "plan(2, 15, 2)", () -> x.plan(2, 15, 2), -5);
        check.asks(x, "plan(2, 15, HUGE)", () -> x.plan(2, 15, HUGE), -5);
        check.asks(x, "plan(2, 0, NONE)", () -> x.plan(2, 0, -1), 0);
        check.asks(x, "plan(2, 0, 0)", () -> x.plan(2, 0, 0), 77);
        check.asks(x, "plan(2, 0, 1)", () -> x.plan(2, 0, 1), 77);
        x.belief(1, 7);
        // quiet is likelier: 16 times 7 times 1 by (7 and 9 times 15)
        check.asks(x, "plan(1, 2, NONE)", () -> x.plan(1, 2, -1), 16 * 7 / (7 + 9 * 15));
        check.asks(x, "plan(1, 2, 0)", () -> x.plan(1, 2, 0), 17);
        x.change(1, 16, 16);
        x.belief(1, 0);
        check.asks(x, "the day goes by behind it", () -> x.plan(1, 2, -1), 0);
        x.change(1, 8, 16);
        check.asks(x, "the day goes by behind it", () -> x.plan(1, 2, -1), 8);
        int[][] wrong = {{0, 1, 0}, {3, 1, 0}, {-1, 1, 0}, {1, 16, 0}, {1, -1, 0}, {1, 1, -2}, {1, 16, 9}, {HUGE, LOW, LOW}};
        for (int[] w : wrong) {
            check.bad(x, "plan", () -> x.plan(w[0], w[1], w[2]), -10);
        }
    }

    private static void promise21OneLandTwice() {
        RavenSupper x = lands();
        x.bird(0, 40, 1);
        x.bird(1, 0, 1);
        x.change(2, 0, 0);
        x.change(3, 0, 0);
        // bird 0 alone: land 2 behind one flight 10, behind two 11 (16 times 10 times 10 by 136)
        check.asks(x, "plan(2, 4, NONE)", () -> x.plan(2, 4, -1), 5);
        check.asks(x, "plan(2, 4, 0)", () -> x.plan(2, 4, 0), 27);
        check.asks(x, "plan(2, 4, 1)", () -> x.plan(2, 4, 1), 27);
        // home is sure by 16 at either time, but a day makes it uncertain again: last is best
        check.asks(x, "plan(2, 1, NONE)", () -> x.plan(2, 1, -1), 2);
        check.asks(x, "plan(2, 1, 0)", () -> x.plan(2, 1, 0), 7);
        check.asks(x, "plan(2, 1, 1)", () -> x.plan(2, 1, 1), 7);
        x.world(1);
        check.asks(x, "plan(2, 1, 0)", () -> x.plan(2, 1, 0), 7);
    }

    private static void plan(RavenSupper x, int lands, int doubt, int first, int second) {
        check.asks(x, "plan(2, " + lands + ", NONE)", () -> x.plan(2, lands, -1), doubt);
        check.asks(x, "plan(2, " + lands + ", 0)", () -> x.plan(2, lands, 0), first);
        check.asks(x, "plan(2, " + lands + ", 1)", () -> x.plan(2, lands, 1), second);
    }

    private static void promise21TwoEvenings() {
        RavenSupper x = lands();
        for (int land = 0; land < 4; land++) {
            x.change(land, 0, 0);
        }
        // land 2: 14 behind bird 0, 15 behind it twice, 10 behind bird 1; land 3: 13 behind bird 0, 8 behind bird 1
        plan(x, 12, 2 + 3, 23, 32);
        // bird 0 twice at land 2, bird 1 twice at land 1
        plan(x, 6, 1 + 1, 21, 21);
        // bird 1 at home, where once is enough
        plan(x, 5, 1 + 0, 20, 20);
        // what was told is not for the plan
        x.tell(0, 3, 0, true);
        plan(x, 12, 2 + 3, 23, 32);
        x.bird(1, 0, 1);
        x.change(2, 16, 16);
        // war, 14, a day: 2; quiet, 0, a day: 16
        plan(x, 4, 0, 27, 27);
        x.belief(0, 0);
        x.change(0, 8, 0);
        // home is 8 behind the first day in any case; then war, 16, for good
        plan(x, 1, 0, 7, 7);
        check.asks(x, "one evening alone", () -> x.plan(1, 1, -1), 8);
    }

    private static void promise22Noon() {
        for (int g = 0; g <= 99; g += 3) {
            RavenSupper each = new RavenSupper();
            for (int l = 0; l <= 99; l += 3) {
                int p = 0;
                while (g * (16 - p) > l * p) {
                    p++;
                }
                check.due("noon(" + g + ", " + l + ")", each.noon(g, l), p);
            }
        }
        RavenSupper x = new RavenSupper();
        check.asks(x, "noon(99, 99)", () -> x.noon(99, 99), 8);
        check.asks(x, "noon(99, 0)", () -> x.noon(99, 0), 16);
        check.asks(x, "noon(0, 99)", () -> x.noon(0, 99), 0);
        int[][] wrong = {{100, 0}, {0, 100}, {-1, 0}, {0, -1}, {HUGE, HUGE}, {LOW, 1}};
        for (int[] w : wrong) {
            check.bad(x, "noon", () -> x.noon(w[0], w[1]), -2);
        }
    }

    private static void promise23Mixed() {
        RavenSupper x = new RavenSupper();
        check.asks(x, "mixed(0, 0, 0, 0)", () -> x.mixed(0, 0, 0, 0), 0);
        check.asks(x, "mixed(10, 10, 0, 0)", () -> x.mixed(10, 10, 0, 0), 8);
        check.asks(x, "mixed(10, 0, 0, 0)", () -> x.mixed(10, 0, 0, 0), 16);
        check.asks(x, "mixed(10, 0, 1, 99)", () -> x.mixed(10, 0, 1, 99), -1);
        check.asks(x, "mixed(1, 99, 10, 0)", () -> x.mixed(1, 99, 10, 0), -1);
        check.asks(x, "mixed(1, 99, 1, 99)", () -> x.mixed(1, 99, 1, 99), 1);
        check.asks(x, "mixed(11, 10, 10, 11)", () -> x.mixed(11, 10, 10, 11), -1);
        check.asks(x, "mixed(9, 7, 7, 9)", () -> x.mixed(9, 7, 7, 9), 9);
        int[][] wrong = {{100, 0, 0, 0}, {0, 100, 0, 0}, {0, 0, 100, 0}, {0, 0, 0, 100},
            {-1, 0, 0, 0}, {0, -1, 0, 0}, {0, 0, -1, 0}, {0, 0, 0, -1}, {HUGE, LOW, 0, 0}};
        for (int[] w : wrong) {
            check.bad(x, "mixed", () -> x.mixed(w[0], w[1], w[2], w[3]), -10);
        }
    }

    private static void row(Supplier<RavenSupper> made, int m, int lands, int k, int... due) {
        RavenSupper x = made.get();
        for (int i = 0; i < m; i++) {
            int day = i;
            check.asks(x, "round(" + m + ", " + lands + ", " + k + ", " + i + ")",
                () -> x.round(m, lands, k, day), due.length == 0 ? -1 : due[i]);
        }
        for (int tooMany : new int[] {m, m + 1, HUGE}) {
            check.asks(x, "round(" + m + ", " + lands + ", " + k + ", " + tooMany + ")",
                () -> x.round(m, lands, k, tooMany), due.length == 0 ? -1 : -5);
        }
    }

    private static RavenSupper nearLandAlone() {
        RavenSupper x = lands();
        x.bird(0, 6, 1);
        return x;
    }

    private static RavenSupper sixLands() {
        RavenSupper x = new RavenSupper();
        x.world(6);
        return x;
    }

    private static RavenSupper sixLandsWithWays() {
        RavenSupper x = sixLands();
        for (int land = 1; land < 6; land++) {
            x.way(0, land, 1);
        }
        return x;
    }

    private static void promise24Round() {
        Supplier<RavenSupper> four = FlightsTest::lands;
        row(four, 1, 0, 1, 0);
        row(four, 5, 0, 12, 0, 0, 0, 0, 0);
        row(four, 1, 4, 1, 2);
        row(four, 3, 4, 1, 2, 2, 2);
        row(four, 3, 4, 2, 0, 2, 2);
        row(four, 3, 4, 3, 0, 0, 2);
        row(four, 4, 4, 2, 0, 2, 0, 2);
        row(four, 5, 4, 3, 0, 0, 2, 0, 2);
        row(four, 2, 6, 2, 1, 2);
        row(four, 3, 6, 2);
        row(four, 5, 6, 2);
        row(four, 5, 6, 3, 0, 1, 2, 1, 2);
        row(four, 4, 15, 4, 0, 1, 2, 3);
        row(four, 4, 15, 3);
        row(four, 5, 15, 4);
        row(four, 5, 15, 5, 0, 0, 1, 2, 3);
        row(four, 5, 15, 12, 0, 0, 1, 2, 3);
        row(four, 3, 15, 12);
        row(FlightsTest::nearLandAlone, 2, 4, 2);
        row(FlightsTest::nearLandAlone, 2, 2, 2, 0, 1);
        row(FlightsTest::sixLands, 5, 62, 5);
        row(FlightsTest::sixLandsWithWays, 5, 62, 5, 1, 2, 3, 4, 5);
        row(FlightsTest::sixLandsWithWays, 5, 63, 12);
    }

    private static void promise24Refused() {
        RavenSupper x = lands();
        int[][] wrong = {{0, 1, 1, 0}, {6, 1, 1, 0}, {1, 16, 1, 0}, {1, -1, 1, 0}, {1, 1, 0, 0}, {1, 1, 13, 0},
            {1, 1, 1, -1}, {1, 1, 13, 9}, {HUGE, LOW, HUGE, LOW}};
        for (int[] w : wrong) {
            check.bad(x, "round", () -> x.round(w[0], w[1], w[2], w[3]), -10);
        }
        check.asks(x, "round(5, 1, 1, HUGE)", () -> x.round(5, 1, 1, HUGE), -5);
    }
}
