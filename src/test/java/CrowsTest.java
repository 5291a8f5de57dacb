/** Promises 25 to 29: crows, deeds and mornings. */
final class CrowsTest {
    private static final int HUGE = Integer.MAX_VALUE, LOW = Integer.MIN_VALUE;
    private static final Check check = new Check();

    public static void main(String[] args) {
        promise25Crow();
        promise26Hush();
        promise27Liars();
        promise28LeftOut();
        promise29Mornings();
        check.end();
    }

    private static void promise25Crow() {
        RavenSupper x = new RavenSupper();
        for (int caw = 0; caw < 8; caw++) {
            check.due("crow", x.crow(caw % 4, 3 - caw % 4, caw < 5), caw + 1);
            check.due("caws", x.count(3), caw + 1);
        }
        check.full(x, "a ninth one", () -> x.crow(0, 0, true), -4);
        int[][] wrong = {{4, 0}, {-1, 0}, {0, 4}, {0, -1}, {HUGE, LOW}};
        for (int[] w : wrong) {
            check.bad(x, "crow in a full world", () -> x.crow(w[0], w[1], true), -2);
        }
        x.world(2);
        check.due("none is left in a new world", x.count(3), 0);
        check.bad(x, "crow(0, 2, true)", () -> x.crow(0, 2, true), -2);
        check.due("crow(3, 1, true)", x.crow(3, 1, true), 1);
    }

    private static void promise26Hush() {
        RavenSupper x = new RavenSupper();
        check.due("hush()", x.hush(), 0);
        x.crow(0, 1, true);
        x.crow(0, 1, false);
        check.due("liars(0)", x.liars(0), 0);
        check.due("hush()", x.hush(), 2);
        check.due("caws", x.count(3), 0);
        check.due("liars(0)", x.liars(0), 16);
        check.due("digest()", x.digest(), new RavenSupper().digest());
    }

    private static void promise27Liars() {
        RavenSupper x = new RavenSupper();
        check.asks(x, "liars(0)", () -> x.liars(0), 16);
        check.asks(x, "liars(1)", () -> x.liars(1), 0);
        x.crow(0, 1, true);
        x.crow(3, 2, false);
        check.asks(x, "of other lands", () -> x.liars(0), 16);
        x.crow(1, 1, false);
        check.asks(x, "one of two", () -> x.liars(0), 8);
        check.asks(x, "neither in all", () -> x.liars(1), 0);
        x.crow(2, 1, true);
        check.asks(x, "liars(0)", () -> x.liars(0), 4);
        x.crow(3, 1, true);
        x.crow(1, 2, true);
        check.asks(x, "0, 2, 3 as one, 1 against them", () -> x.liars(0), 2);
        check.asks(x, "liars(1)", () -> x.liars(1), 0);
        x.crow(0, 2, false);
        check.asks(x, "liars(0)", () -> x.liars(0), 2);
        x.crow(0, 2, true);
        check.asks(x, "0 against itself", () -> x.liars(0), 0);
        check.asks(x, "none", () -> x.liars(1), -1);
        for (int what : new int[] {2, -1, HUGE, LOW}) {
            check.bad(x, "liars(" + what + ")", () -> x.liars(what), -10);
        }
    }

    private static void promise28LeftOut() {
        RavenSupper x = new RavenSupper();
        x.world(6);
        int[] of5 = {1, 5, 10, 10, 5, 1};
        int[] of4 = {1, 4, 6, 4, 1, 0};
        int[] of3 = {1, 3, 3, 1, 0, 0};
        for (int deeds = 0; deeds <= 6; deeds++) {
            int k = deeds;
            check.asks(x, "one land, " + k, () -> x.leftOut(k, 2, 2, -1), k < 1 ? 0 : of5[k - 1]);
            check.asks(x, "itself, " + k, () -> x.leftOut(k, 2, 2, 2), k < 1 ? 0 : of5[k - 1]);
            check.asks(x, "two lands, " + k, () -> x.leftOut(k, 2, 5, -1), k < 2 ? 0 : of4[k - 2]);
            check.asks(x, "one and another, " + k, () -> x.leftOut(k, 2, 2, 0), k < 2 ? 0 : of4[k - 2]);
            check.asks(x, "two and another, " + k, () -> x.leftOut(k, 5, 2, 0), k < 3 ? 0 : of3[k - 3]);
        }
        int[][] wrong = {{7, 0, 0, -1}, {-1, 0, 0, -1}, {1, 6, 0, -1}, {1, -1, 0, -1}, {1, 0, 6, -1}, {1, 0, -1, -1},
            {1, 0, 0, 6}, {1, 0, 0, -2}, {HUGE, HUGE, LOW, LOW}};
        for (int[] w : wrong) {
            check.bad(x, "leftOut", () -> x.leftOut(w[0], w[1], w[2], w[3]), -2);
        }
        x.world(2);
        check.asks(x, "more than there are", () -> x.leftOut(6, 0, 1, -1), 0);
        check.asks(x, "all that there are", () -> x.leftOut(2, 0, 0, 1), 1);
    }

    private static void promise29Mornings() {
        RavenSupper x = new RavenSupper();
        x.change(1, 0, 0);
        x.change(2, 16, 3);
        check.asks(x, "mornings(20, 7)", () -> x.mornings(20, 7), 38);
        check.asks(x, "mornings(60, 123456)", () -> x.mornings(60, 123456), 118);
        check.asks(x, "mornings(0, 5)", () -> x.mornings(0, 5), 0);
        x.world(1);
        x.change(0, 16, 16);
        check.asks(x, "war each other morning", () -> x.mornings(7, 3), 4);
        x.change(0, 16, 0);
        check.asks(x, "war for good", () -> x.mornings(60, 999999), 60);
        x.change(0, 0, 16);
        check.asks(x, "never", () -> x.mornings(60, 0), 0);
        x.world(6);
        x.change(1, 9, 3);
        x.change(5, 1, 14);
        x.belief(1, 16);
        int[] up = {2, 9, 2, 2, 2, 1};
        int[] down = {2, 3, 2, 2, 2, 14};
        for (int seed = 0; seed <= 999999; seed += 99999) {
            int told = seed;
            check.asks(x, "mornings(33, " + seed + ")", () -> x.mornings(33, told), byHand(up, down, 33, seed));
        }
        int[][] wrong = {{61, 0}, {-1, 0}, {0, 1000000}, {0, -1}, {HUGE, LOW}};
        for (int[] w : wrong) {
            check.bad(x, "mornings", () -> x.mornings(w[0], w[1]), -2);
        }
    }

    private static int byHand(int[] up, int[] down, int m, int seed) {
        java.math.BigInteger next = java.math.BigInteger.valueOf(seed);
        boolean[] war = new boolean[6];
        int sum = 0;
        for (int morning = 0; morning < m; morning++) {
            for (int land = 0; land < 6; land++) {
                next = next.multiply(java.math.BigInteger.valueOf(1103515245)).add(java.math.BigInteger.valueOf(12345));
                next = next.mod(java.math.BigInteger.ONE.shiftLeft(31));
                int drawn = next.divide(java.math.BigInteger.valueOf(65536)).intValue() % 16;
                if (drawn < (war[land] ? down[land] : up[land])) {
                    war[land] = !war[land];
                }
            }
            for (boolean w : war) {
                sum += w ? 1 : 0;
            }
        }
        return sum;
    }
}
