/** Promises 10 to 12 and 16: what birds tell at evening, and evenings undone. */
final class EveningsTest {
    private static final int HUGE = Integer.MAX_VALUE, LOW = Integer.MIN_VALUE;
    private static final Check check = new Check();

    public static void main(String[] args) {
        promise10Tell();
        promise10Refused();
        promise11Evening();
        promise11BothBirds();
        promise11EachKind();
        promise11NothingLikely();
        promise11LastDay();
        promise12Undo();
        promise12EightAtMost();
        promise12WhatLeavesNone();
        promise16Sure();
        promise16Refused();
        check.end();
    }

    /** Land 1 is 5 hours off, land 2 is 8, land 3 is out of reach for bird 0. */
    private static RavenSupper lands() {
        RavenSupper x = new RavenSupper();
        x.way(0, 1, 5);
        x.way(1, 2, 3);
        x.way(2, 3, 9);
        x.bird(0, 16, 2);
        x.bird(1, 40, 1);
        return x;
    }

    private static void promise10Tell() {
        RavenSupper x = lands();
        check.due("tell(0, 2, 0, true)", x.tell(0, 2, 0, true), 12);
        check.due("about(0, 3)", x.about(0, 3), 2);
        check.due("in place of it", x.tell(0, 1, 2, false), 12);
        check.due("about(0, 3)", x.about(0, 3), 1);
        check.due("about(1, 3)", x.about(1, 3), -1);
        check.due("a crow that is sure of nothing", x.tell(1, 0, 3, true), 0);
        check.due("about(1, 3)", x.about(1, 3), 0);
        check.due("belief as it was", x.of(1, 0), 8);
        check.due("day as it was", x.count(1), 0);
    }

    private static void promise10Refused() {
        RavenSupper x = lands();
        x.tell(0, 1, 0, true);
        int[][] wrong = {{2, 0, 0}, {-1, 0, 0}, {0, 4, 0}, {0, -1, 0}, {0, 0, 6}, {0, 0, -1}, {HUGE, 3, 0}, {0, 3, HUGE}};
        for (int[] w : wrong) {
            check.bad(x, "tell", () -> x.tell(w[0], w[1], w[2], true), -2);
        }
        check.no(x, "tell(0, 3, 0, true)", () -> x.tell(0, 3, 0, true), -3);
        x.world(2);
        check.no(x, "tell(1, 1, 0, true)", () -> x.tell(1, 1, 0, true), -3);
    }

    private static void promise11Evening() {
        RavenSupper x = lands();
        x.change(0, 0, 0);
        x.change(1, 0, 0);
        x.change(2, 16, 0);
        x.change(3, 1, 5);
        check.due("evening()", x.evening(), 1);
        check.due("of(0, 0)", x.of(0, 0), 8);
        check.due("of(2, 0)", x.of(2, 0), 16);
        check.due("of(3, 0)", x.of(3, 0), (8 * 11 + 8) / 16);
        x.tell(0, 1, 0, true);
        check.due("evening()", x.evening(), 2);
        check.due("of(1, 0)", x.of(1, 0), 14);
        check.due("what was told is gone", x.about(0, 3), -1);
        check.due("evening()", x.evening(), 3);
        check.due("of(1, 0)", x.of(1, 0), 14);
        x.tell(1, 1, 0, false);
        x.evening();
        check.due("of(1, 0)", x.of(1, 0), 16 * 14 * 5 / (14 * 5 + 2 * 11));
    }

    private static void promise11BothBirds() {
        RavenSupper x = lands();
        x.belief(1, 5);
        x.change(1, 3, 6);
        x.tell(1, 1, 0, true);
        x.tell(0, 1, 5, false);
        // bird 0 first: sure by 11, three days late; then bird 1: sure by 11
        int b = 16 * 5 * 5 / (5 * 5 + 11 * 11);
        for (int day = 0; day < 3; day++) {
            b = (b * 10 + (16 - b) * 3) / 16;
        }
        b = 16 * b * 11 / (b * 11 + (16 - b) * 5);
        b = (b * 10 + (16 - b) * 3) / 16;
        x.evening();
        check.due("of(1, 0)", x.of(1, 0), b);
        check.due("of(2, 0), of which nothing was told", x.of(2, 0), 8);
    }

    private static void promise11EachKind() {
        int[] sure = {14, 14, 12, 2, 10, 11};
        int[] late = {0, 1, 0, 0, 0, 3};
        for (int kind = 0; kind < 6; kind++) {
            for (int b = 0; b <= 16; b++) {
                for (int war = 0; war < 2; war++) {
                    RavenSupper x = lands();
                    x.change(1, 5, 9);
                    x.belief(1, b);
                    check.due("sure", x.tell(0, 1, kind, war == 1), sure[kind]);
                    x.evening();
                    int w = war == 1 ? sure[kind] : 16 - sure[kind];
                    int due = 16 * b * w / (b * w + (16 - b) * (16 - w));
                    for (int day = 0; day <= late[kind]; day++) {
                        due = (due * 7 + (16 - due) * 5) / 16;
                    }
                    check.due("belief " + b + " behind kind " + kind, x.of(1, 0), due);
                }
            }
        }
    }

    private static void promise11NothingLikely() {
        RavenSupper x = new RavenSupper();
        x.change(0, 0, 0);
        x.belief(0, 0);
        check.due("tell(0, 0, 0, true)", x.tell(0, 0, 0, true), 16);
        x.evening();
        check.due("belief stays", x.of(0, 0), 0);
        x.belief(0, 16);
        x.tell(0, 0, 0, false);
        x.tell(1, 0, 3, true);
        x.evening();
        check.due("belief stays", x.of(0, 0), 16);
        x.belief(0, 9);
        x.tell(0, 0, 0, false);
        x.evening();
        check.due("nothing but quiet", x.of(0, 0), 0);
    }

    private static void promise11LastDay() {
        RavenSupper x = new RavenSupper();
        for (int day = 1; day <= 900; day++) {
            check.due("evening()", x.evening(), day);
        }
        check.no(x, "evening()", x::evening, -3);
        check.due("undo()", x.undo(), 1);
        check.due("evening()", x.evening(), 900);
    }

    private static void promise12Undo() {
        RavenSupper x = lands();
        x.tell(0, 2, 4, true);
        x.tell(1, 3, 5, false);
        long first = x.digest();
        x.evening();
        x.tell(1, 1, 3, true);
        x.tell(1, 0, 2, true);
        check.due("tell() leaves it", x.count(4), 1);
        int[] beliefs = {x.of(0, 0), x.of(1, 0), x.of(2, 0), x.of(3, 0)};
        x.evening();
        x.tell(0, 1, 1, false);
        check.due("undo()", x.undo(), 1);
        check.due("day", x.count(1), 1);
        check.due("about(0, 3)", x.about(0, 3), -1);
        check.due("about(1, 3)", x.about(1, 3), 0);
        for (int land = 0; land < 4; land++) {
            check.due("of(" + land + ", 0)", x.of(land, 0), beliefs[land]);
        }
        check.due("undo()", x.undo(), 1);
        check.due("digest()", x.digest(), first);
        check.no(x, "undo()", x::undo, -3);
        x.evening();
        check.due("evenings go on from there", x.count(1), 1);
    }

    private static void promise12EightAtMost() {
        RavenSupper x = lands();
        int[] was = new int[12];
        for (int day = 0; day < 12; day++) {
            was[day] = x.of(1, 0);
            x.tell(0, 1, day % 6, day % 4 < 2);
            x.evening();
            check.due("that may be undone", x.count(4), Math.min(day + 1, 8));
        }
        for (int day = 11; day >= 4; day--) {
            check.due("undo()", x.undo(), 1);
            check.due("day", x.count(1), day);
            check.due("of(1, 0)", x.of(1, 0), was[day]);
            check.due("about(0, 3)", x.about(0, 3), 1);
        }
        check.no(x, "undo()", x::undo, -3);
    }

    private static void promise12WhatLeavesNone() {
        for (int told = 0; told < 8; told++) {
            RavenSupper x = lands();
            x.type('x');
            x.evening();
            x.evening();
            switch (told) {
                case 0: x.world(4); break;
                case 1: x.belief(0, 8); break;
                case 2: x.change(0, 2, 2); break;
                case 3: x.way(0, 1, 5); break;
                case 4: x.bird(0, 16, 2); break;
                case 5: x.crow(0, 0, true); break;
                case 6: x.hush(); break;
                default:
                    x.clear();
                    check.type(x, "world 4;");
                    x.read();
            }
            check.due("that may be undone behind " + told, x.count(4), 0);
            check.no(x, "undo()", x::undo, -3);
        }
        RavenSupper x = lands();
        x.evening();
        x.type('w');
        x.read();
        x.image(0);
        x.belief(9, 9);
        x.world(9);
        x.crow(9, 9, true);
        x.send(1, 0);
        x.plan(2, 3, 0);
        check.due("that may be undone", x.count(4), 1);
    }

    private static void promise16Sure() {
        RavenSupper x = new RavenSupper();
        x.way(0, 1, 9);
        x.way(1, 2, 9);
        x.bird(0, 40, 1);
        x.bird(1, 40, 4);
        int[][] due = {
            {16, 16, 14, 0, 11, 13}, {8, 8, 8, 8, 8, 8}, {8, 8, 8, 8, 8, 8},
            {16, 16, 14, 0, 11, 13}, {14, 14, 12, 2, 10, 11}, {12, 12, 10, 4, 9, 9}};
        int[] late = {0, 1, 0, 0, 0, 3};
        for (int kind = 0; kind < 6; kind++) {
            for (int land = 0; land < 3; land++) {
                check.due("bird 0, " + land + ", " + kind, x.sure(0, land, kind, 0), due[land][kind]);
                check.due("bird 1, " + land + ", " + kind, x.sure(1, land, kind, 0), due[3 + land][kind]);
                check.due("late", x.sure(1, land, kind, 1), late[kind]);
            }
        }
        x.way(0, 1, 7);
        int[] cut = {15, 15, 13, 1, 10, 12};
        for (int kind = 0; kind < 6; kind++) {
            check.due("7 by 4, cut, " + kind, x.sure(1, 1, kind, 0), cut[kind]);
        }
        check.due("9 and no less than 8", x.sure(0, 1, 0, 0), 9);
        check.due("8 at least", x.sure(0, 1, 2, 0), 8);
        check.due("8 at least", x.sure(0, 1, 5, 0), 8);
        check.due("a crow", x.sure(0, 1, 3, 0), 7);
    }

    private static void promise16Refused() {
        RavenSupper x = lands();
        int[][] wrong = {
            {2, 0, 0, 0}, {-1, 0, 0, 0}, {0, 4, 0, 0}, {0, -1, 0, 0}, {0, 0, 6, 0}, {0, 0, -1, 0},
            {0, 0, 0, 2}, {0, 0, 0, -1}, {0, 3, 0, 2}, {HUGE, LOW, HUGE, LOW}};
        for (int[] w : wrong) {
            check.bad(x, "sure", () -> x.sure(w[0], w[1], w[2], w[3]), -2);
        }
        check.no(x, "sure(0, 3, 0, 0)", () -> x.sure(0, 3, 0, 0), -3);
        check.no(x, "sure(0, 3, 5, 1)", () -> x.sure(0, 3, 5, 1), -3);
        check.asks(x, "sure(0, 2, 1, 1)", () -> x.sure(0, 2, 1, 1), 1);
    }
}
