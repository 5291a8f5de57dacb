/**
 * Two ravens at supper: lands with quiet or war, what is believed of each, what the ravens tell of
 * them at evening, and where it is best to send them. README.md says how to use it.
 */
public final class RavenSupper {
    public static final int NONE = -1, BAD = -2, NO = -3, FULL = -4;

    private static final int MOST_LANDS = 6, LANDS_AT_FIRST = 4, HOME = 0, MOST_HOURS = 9;
    private static final int BIRDS = 2, MOST_REACHES = 40, MOST_FORGETS = 9;
    private static final int REACHES_AT_FIRST = 12, FORGETS_AT_FIRST = 4, CHANGE_AT_FIRST = 2;
    private static final int WHOLE = 16, EVEN = 8;
    private static final int PLAIN = 0, LATE = 1, FORGOTTEN = 2, CROW = 3, THOUGHT = 4, HEARSAY = 5;
    private static final int LAST_DAY = 900, MOST_UNDONE = 8, MOST_AHEAD = 30;
    private static final int MOST_EVENINGS = 2, MOST_ROUND = 5, MOST_SEEN_IN = 12, MOST_STAKE = 99;
    private static final int CROWS = 4, MOST_CAWS = 8, MOST_DEEDS = 6;
    private static final int MOST_MORNINGS = 60, MOST_SEED = 999999;
    private static final int MOST_BYTES = 150, LAST_BYTE = 127, IMAGES = 2;
    private static final int REASONS = 3;
    private static final int OTHER_BAD = -10, NOT_SO_MANY = -5, STATUS_BAD = -1;
    private static final int WORTH_BAD = -100000, WORTH_NO = -200000;

    private final World now = new World();
    private final World spare = new World();
    private final World[] images = {new World(), new World()};
    private final boolean[] kept = new boolean[IMAGES];
    private final Text text = new Text();
    private final Flights flights = new Flights();
    private final Rounds rounds = new Rounds();
    private final int[] refused = new int[REASONS];

    public RavenSupper() {
    }

    // ---- a world

    public int world(int n) {
        return counted(now.setLands(n));
    }

    public int belief(int land, int b) {
        return counted(now.setBelief(land, b));
    }

    public int change(int land, int u, int d) {
        return counted(now.setChange(land, u, d));
    }

    public int way(int a, int b, int hours) {
        return counted(now.setWay(a, b, hours));
    }

    public int bird(int bird, int reaches, int forgets) {
        return counted(now.setBird(bird, reaches, forgets));
    }

    public int type(int c) {
        return counted(text.add(c));
    }

    public int clear() {
        return text.drop();
    }

    public int read() {
        int answer = text.tellTo(spare);
        if (answer > 0) {
            now.copyFrom(spare);
        }
        return answer;
    }

    // ---- evenings

    public int tell(int bird, int land, int kind, boolean war) {
        int answer = sure(bird, land, kind, 0);
        if (answer >= 0) {
            now.tonight.hear(bird, land, kind, war);
        }
        return answer;
    }

    public int evening() {
        if (now.tonight.day >= LAST_DAY) {
            return counted(NO);
        }
        return now.passEvening();
    }

    public int undo() {
        return counted(now.takeBackEvening());
    }

    public int of(int land, int what) {
        if (!now.isLand(land)) {
            return counted(BAD);
        }
        switch (what) {
            case 0: return now.tonight.belief[land];
            case 1: return now.up[land];
            case 2: return now.down[land];
            case 3: return Odds.doubt(now.tonight.belief[land]);
            case 4: return now.far[land];
            default: return counted(BAD);
        }
    }

    public int about(int bird, int what) {
        if (!isBird(bird)) {
            return counted(BAD);
        }
        switch (what) {
            case 0: return now.reaches[bird];
            case 1: return now.forgets[bird];
            case 2: return now.reachedLands(bird);
            case 3: return now.tonight.land[bird];
            default: return counted(BAD);
        }
    }

    public int hours(int a, int b) {
        if (!now.isPair(a, b)) {
            return counted(BAD);
        }
        return now.ways[a][b];
    }

    public int sure(int bird, int land, int kind, int what) {
        if (!isBird(bird) || !now.isLand(land) || !within(kind, PLAIN, HEARSAY) || !within(what, 0, 1)) {
            return counted(BAD);
        }
        if (!now.isReached(bird, land)) {
            return counted(NO);
        }
        return what == 0 ? now.sureness(bird, land, kind) : Odds.lateness(kind);
    }

    // ---- where to fly

    public int ahead(int land, int m) {
        if (!now.isLand(land) || !within(m, 0, MOST_AHEAD)) {
            return counted(BAD);
        }
        return now.daysLater(land, now.tonight.belief[land], m);
    }

    public int worth(int bird, int land) {
        if (!isBird(bird) || !now.isLand(land)) {
            return refusedWith(BAD, WORTH_BAD);
        }
        if (!now.isReached(bird, land)) {
            return refusedWith(NO, WORTH_NO);
        }
        return now.flightWorth(bird, land);
    }

    public int send(int lands, int what) {
        if (!now.areLands(lands) || !within(what, 0, 1)) {
            return counted(BAD);
        }
        int pair = flights.pairOfMostWorth(now, lands);
        return what == 0 ? pair : flights.pairGain(pair);
    }

    public int third(int lands) {
        if (!now.areLands(lands)) {
            return counted(BAD);
        }
        return flights.thirdGain(flights.pairOfMostWorth(now, lands));
    }

    public int plan(int m, int lands, int i) {
        if (!within(m, 1, MOST_EVENINGS) || !now.areLands(lands) || i < NONE) {
            return refusedWith(BAD, OTHER_BAD);
        }
        if (i >= m) {
            return NOT_SO_MANY;
        }
        flights.lookAhead(now, lands, m);
        return i == NONE ? flights.planDoubt : flights.planPairs[i];
    }

    public int noon(int g, int l) {
        if (!isStake(g) || !isStake(l)) {
            return counted(BAD);
        }
        int p = 0;
        while (p < WHOLE && Odds.makesWar(g, l, p)) {
            p++;
        }
        return p;
    }

    public int mixed(int g, int l, int otherG, int otherL) {
        if (!isStake(g) || !isStake(l) || !isStake(otherG) || !isStake(otherL)) {
            return refusedWith(BAD, OTHER_BAD);
        }
        for (int p = 0; p <= WHOLE; p++) {
            if (!Odds.makesWar(g, l, p) && !Odds.makesWar(otherG, otherL, WHOLE - p)) {
                return p;
            }
        }
        return NONE;
    }

    public int round(int m, int lands, int k, int i) {
        if (!within(m, 1, MOST_ROUND) || !now.areLands(lands) || !within(k, 1, MOST_SEEN_IN) || i < 0) {
            return refusedWith(BAD, OTHER_BAD);
        }
        if (!rounds.find(now, m, lands, k)) {
            return NONE;
        }
        return i < m ? rounds.row[i] : NOT_SO_MANY;
    }

    // ---- crows, deeds

    public int crow(int c, int land, boolean war) {
        if (!within(c, 0, CROWS - 1) || !now.isLand(land)) {
            return counted(BAD);
        }
        return counted(now.hearCaw(c, land, war));
    }

    public int hush() {
        return now.dropCaws();
    }

    public int liars(int what) {
        if (!within(what, 0, 1)) {
            return refusedWith(BAD, OTHER_BAD);
        }
        return what == 0 ? now.caws.liarSets() : now.caws.sureLiars();
    }

    public int leftOut(int k, int a, int b, int land) {
        boolean all = land == NONE;
        if (!within(k, 0, MOST_DEEDS) || !now.isLand(a) || !now.isLand(b) || !all && !now.isLand(land)) {
            return counted(BAD);
        }
        int has = 1 << a | 1 << b | (all ? 0 : 1 << land);
        int sets = 0;
        for (int set = 0; set < 1 << now.lands; set++) {
            if ((set & has) == has && Integer.bitCount(set) == k) {
                sets++;
            }
        }
        return sets;
    }

    public int mornings(int m, int seed) {
        if (!within(m, 0, MOST_MORNINGS) || !within(seed, 0, MOST_SEED)) {
            return counted(BAD);
        }
        return now.warMornings(m, seed);
    }

    // ---- what there is

    public int image(int i) {
        if (!within(i, 0, IMAGES - 1)) {
            return counted(BAD);
        }
        images[i].copyFrom(now);
        kept[i] = true;
        return 1;
    }

    public int from(int i) {
        if (!within(i, 0, IMAGES - 1)) {
            return counted(BAD);
        }
        if (!kept[i]) {
            return counted(NO);
        }
        now.copyFrom(images[i]);
        return 1;
    }

    public int status(int what) {
        if (!within(what, 0, REASONS - 1)) {
            return refusedWith(BAD, STATUS_BAD);
        }
        return refused[what];
    }

    public int count(int what) {
        switch (what) {
            case 0: return now.lands;
            case 1: return now.tonight.day;
            case 2: return now.wayCount();
            case 3: return now.caws.number;
            case 4: return now.pasts;
            case 5: return text.length;
            default: return counted(BAD);
        }
    }

    public long digest() {
        long h = 911;
        for (int what = 0; what <= 5; what++) {
            h = 31 * h + count(what);
        }
        return now.digestFrom(h);
    }

    // ---- refusals and what is told

    /** Counts an answer that refuses a call; any other goes through as it is. */
    private int counted(int answer) {
        if (answer == BAD || answer == NO || answer == FULL) {
            refused[BAD - answer]++;
        }
        return answer;
    }

    private int refusedWith(int reason, int answer) {
        counted(reason);
        return answer;
    }

    private static boolean within(int number, int least, int most) {
        return number >= least && number <= most;
    }

    private static boolean isBird(int bird) {
        return within(bird, 0, BIRDS - 1);
    }

    private static boolean isStake(int number) {
        return within(number, 0, MOST_STAKE);
    }

    private static boolean hasBit(int bits, int place) {
        return (bits >> place & 1) == 1;
    }

    private static int oneIf(boolean yes) {
        return yes ? 1 : 0;
    }

    /** How odds, of 16, go on from one another. */
    private static final class Odds {
        static int dayLater(int b, int u, int d) {
            return (b * (WHOLE - d) + (WHOLE - b) * u) / WHOLE;
        }

        static int doubt(int b) {
            return Math.min(b, WHOLE - b);
        }

        /** Of 256, how often a tiding of war, sure by w, is told of a land with belief b. */
        static int toldWar(int b, int w) {
            return b * w + (WHOLE - b) * (WHOLE - w);
        }

        static int behindTiding(int b, int w, boolean war) {
            int weight = war ? w : WHOLE - w;
            int together = toldWar(b, weight);
            return together == 0 ? b : WHOLE * b * weight / together;
        }

        static boolean likelierWar(int b) {
            return b >= EVEN;
        }

        static int flightWorth(int b, int w) {
            int war = toldWar(b, w);
            int quiet = 256 - war;
            int doubtBehindWar = doubt(behindTiding(b, w, true));
            int doubtBehindQuiet = doubt(behindTiding(b, w, false));
            return 256 * doubt(b) - doubtBehindWar * war - doubtBehindQuiet * quiet;
        }

        static int sureness(int kind, int plain) {
            switch (kind) {
                case FORGOTTEN: return less(plain, 2);
                case CROW: return WHOLE - plain;
                case THOUGHT: return (less(plain, 2) - EVEN) / 2 + EVEN;
                case HEARSAY: return less(plain, 3);
                default: return plain;
            }
        }

        static int less(int sure, int by) {
            return Math.max(sure - by, EVEN);
        }

        static int lateness(int kind) {
            switch (kind) {
                case LATE: return 1;
                case HEARSAY: return 3;
                default: return 0;
            }
        }

        static boolean makesWar(int g, int l, int p) {
            return g * (WHOLE - p) > l * p;
        }
    }

    /** What one evening leaves for the next: all that undoing it brings back. */
    private static final class Evening {
        private int day;
        private final int[] belief = new int[MOST_LANDS];
        private final int[] land = new int[BIRDS];
        private final int[] kind = new int[BIRDS];
        private final boolean[] war = new boolean[BIRDS];

        void begin() {
            day = 0;
            for (int place = 0; place < MOST_LANDS; place++) {
                belief[place] = EVEN;
            }
            hearNothing();
        }

        void hear(int bird, int ofLand, int ofKind, boolean ofWar) {
            land[bird] = ofLand;
            kind[bird] = ofKind;
            war[bird] = ofWar;
        }

        void hearNothing() {
            for (int bird = 0; bird < BIRDS; bird++) {
                hear(bird, NONE, 0, false);
            }
        }

        void copyFrom(Evening other) {
            day = other.day;
            System.arraycopy(other.belief, 0, belief, 0, MOST_LANDS);
            System.arraycopy(other.land, 0, land, 0, BIRDS);
            System.arraycopy(other.kind, 0, kind, 0, BIRDS);
            System.arraycopy(other.war, 0, war, 0, BIRDS);
        }
    }

    /** What crows said, all of one day. */
    private static final class Caws {
        private static final int SETS = 1 << CROWS;

        private int number;
        private final int[] crow = new int[MOST_CAWS];
        private final int[] land = new int[MOST_CAWS];
        private final boolean[] war = new boolean[MOST_CAWS];

        void add(int c, int ofLand, boolean ofWar) {
            crow[number] = c;
            land[number] = ofLand;
            war[number] = ofWar;
            number++;
        }

        int liarSets() {
            int sets = 0;
            for (int liars = 0; liars < SETS; liars++) {
                sets += oneIf(mayLie(liars));
            }
            return sets;
        }

        int sureLiars() {
            int inAll = NONE;
            for (int liars = 0; liars < SETS; liars++) {
                if (mayLie(liars)) {
                    inAll = inAll == NONE ? liars : inAll & liars;
                }
            }
            return inAll;
        }

        private boolean mayLie(int liars) {
            int warLands = 0;
            int quietLands = 0;
            for (int i = 0; i < number; i++) {
                if (war[i] != hasBit(liars, crow[i])) {
                    warLands |= 1 << land[i];
                } else {
                    quietLands |= 1 << land[i];
                }
            }
            return (warLands & quietLands) == 0;
        }

        void copyFrom(Caws other) {
            number = other.number;
            System.arraycopy(other.crow, 0, crow, 0, MOST_CAWS);
            System.arraycopy(other.land, 0, land, 0, MOST_CAWS);
            System.arraycopy(other.war, 0, war, 0, MOST_CAWS);
        }
    }

    /** All that an image keeps: lands, ways, birds, caws, the evening and those that may be undone. */
    private static final class World {
        private int lands;
        private final int[] up = new int[MOST_LANDS];
        private final int[] down = new int[MOST_LANDS];
        private final int[][] ways = new int[MOST_LANDS][MOST_LANDS];
        private final int[] far = new int[MOST_LANDS];
        private final int[] reaches = new int[BIRDS];
        private final int[] forgets = new int[BIRDS];
        private final Caws caws = new Caws();
        private final Evening tonight = new Evening();
        private final Evening[] past = new Evening[MOST_UNDONE];
        private int pasts;

        World() {
            for (int i = 0; i < MOST_UNDONE; i++) {
                past[i] = new Evening();
            }
            begin(LANDS_AT_FIRST);
        }

        private void begin(int n) {
            lands = n;
            for (int a = 0; a < MOST_LANDS; a++) {
                up[a] = CHANGE_AT_FIRST;
                down[a] = CHANGE_AT_FIRST;
                for (int b = 0; b < MOST_LANDS; b++) {
                    ways[a][b] = 0;
                }
            }
            for (int bird = 0; bird < BIRDS; bird++) {
                reaches[bird] = REACHES_AT_FIRST;
                forgets[bird] = FORGETS_AT_FIRST;
            }
            caws.number = 0;
            pasts = 0;
            tonight.begin();
            measureFar();
        }

        // what is told of it: what it was, or BAD

        int setLands(int n) {
            if (!within(n, 1, MOST_LANDS)) {
                return BAD;
            }
            int was = lands;
            begin(n);
            return was;
        }

        int setBelief(int land, int b) {
            if (!isLand(land) || !within(b, 0, WHOLE)) {
                return BAD;
            }
            int was = tonight.belief[land];
            tonight.belief[land] = b;
            pasts = 0;
            return was;
        }

        int setChange(int land, int u, int d) {
            if (!isLand(land) || !within(u, 0, WHOLE) || !within(d, 0, WHOLE)) {
                return BAD;
            }
            int was = 100 * up[land] + down[land];
            up[land] = u;
            down[land] = d;
            pasts = 0;
            return was;
        }

        int setWay(int a, int b, int hours) {
            if (!isPair(a, b) || !within(hours, 0, MOST_HOURS)) {
                return BAD;
            }
            int was = ways[a][b];
            ways[a][b] = hours;
            ways[b][a] = hours;
            measureFar();
            tonight.hearNothing();
            pasts = 0;
            return was;
        }

        int setBird(int bird, int hours, int days) {
            if (!isBird(bird) || !within(hours, 0, MOST_REACHES) || !within(days, 1, MOST_FORGETS)) {
                return BAD;
            }
            int was = reaches[bird];
            reaches[bird] = hours;
            forgets[bird] = days;
            tonight.hearNothing();
            pasts = 0;
            return was;
        }

        int hearCaw(int crow, int land, boolean war) {
            if (caws.number >= MOST_CAWS) {
                return FULL;
            }
            caws.add(crow, land, war);
            pasts = 0;
            return caws.number;
        }

        int dropCaws() {
            int was = caws.number;
            caws.number = 0;
            pasts = 0;
            return was;
        }

        void copyFrom(World other) {
            lands = other.lands;
            System.arraycopy(other.up, 0, up, 0, MOST_LANDS);
            System.arraycopy(other.down, 0, down, 0, MOST_LANDS);
            for (int a = 0; a < MOST_LANDS; a++) {
                System.arraycopy(other.ways[a], 0, ways[a], 0, MOST_LANDS);
            }
            System.arraycopy(other.far, 0, far, 0, MOST_LANDS);
            System.arraycopy(other.reaches, 0, reaches, 0, BIRDS);
            System.arraycopy(other.forgets, 0, forgets, 0, BIRDS);
            caws.copyFrom(other.caws);
            tonight.copyFrom(other.tonight);
            for (int i = 0; i < MOST_UNDONE; i++) {
                past[i].copyFrom(other.past[i]);
            }
            pasts = other.pasts;
        }

        // lands and ways

        boolean isLand(int land) {
            return within(land, HOME, lands - 1);
        }

        boolean areLands(int bits) {
            return within(bits, 0, (1 << lands) - 1);
        }

        boolean isPair(int a, int b) {
            return isLand(a) && isLand(b) && a != b;
        }

        int wayCount() {
            int number = 0;
            for (int a = 0; a < lands; a++) {
                for (int b = a + 1; b < lands; b++) {
                    number += oneIf(ways[a][b] > 0);
                }
            }
            return number;
        }

        private void measureFar() {
            for (int land = 0; land < MOST_LANDS; land++) {
                far[land] = land == HOME ? 0 : NONE;
            }
            // no shortest path has more ways than lands
            for (int length = 0; length < lands; length++) {
                for (int a = 0; a < lands; a++) {
                    measureFrom(a);
                }
            }
        }

        private void measureFrom(int a) {
            for (int b = 0; b < lands; b++) {
                int hours = far[a] + ways[a][b];
                if (far[a] != NONE && ways[a][b] > 0 && (far[b] == NONE || hours < far[b])) {
                    far[b] = hours;
                }
            }
        }

        // birds and tidings

        boolean isReached(int bird, int land) {
            return far[land] != NONE && 2 * far[land] <= reaches[bird];
        }

        int reachedLands(int bird) {
            int bits = 0;
            for (int land = 0; land < lands; land++) {
                bits |= oneIf(isReached(bird, land)) << land;
            }
            return bits;
        }

        int plainSureness(int bird, int land) {
            int each = forgets[bird];
            int forgotten = each == 0 ? 0 : far[land] / each;
            return Odds.less(WHOLE, forgotten);
        }

        int sureness(int bird, int land, int kind) {
            return Odds.sureness(kind, plainSureness(bird, land));
        }

        int flightWorth(int bird, int land) {
            return Odds.flightWorth(tonight.belief[land], plainSureness(bird, land));
        }

        int daysLater(int land, int b, int days) {
            int later = b;
            for (int day = 0; day < days; day++) {
                later = Odds.dayLater(later, up[land], down[land]);
            }
            return later;
        }

        int doubtTomorrow(int land, int b) {
            return Odds.doubt(daysLater(land, b, 1));
        }

        // evenings

        int passEvening() {
            keepTonight();
            for (int bird = 0; bird < BIRDS; bird++) {
                if (isLand(tonight.land[bird])) {
                    believe(bird, tonight.land[bird], tonight.kind[bird]);
                }
            }
            for (int land = 0; land < lands; land++) {
                tonight.belief[land] = daysLater(land, tonight.belief[land], 1);
            }
            tonight.hearNothing();
            tonight.day++;
            return tonight.day;
        }

        private void believe(int bird, int land, int kind) {
            int sure = sureness(bird, land, kind);
            int told = Odds.behindTiding(tonight.belief[land], sure, tonight.war[bird]);
            tonight.belief[land] = daysLater(land, told, Odds.lateness(kind));
        }

        private void keepTonight() {
            if (pasts >= MOST_UNDONE) {
                for (int i = 1; i < MOST_UNDONE; i++) {
                    past[i - 1].copyFrom(past[i]);
                }
                pasts = MOST_UNDONE - 1;
            }
            past[pasts].copyFrom(tonight);
            pasts++;
        }

        int takeBackEvening() {
            if (pasts == 0) {
                return NO;
            }
            pasts--;
            tonight.copyFrom(past[pasts]);
            return 1;
        }

        // mornings, and the digest

        int warMornings(int m, int seed) {
            long x = seed;
            int warLands = 0;
            int together = 0;
            for (int morning = 0; morning < m; morning++) {
                for (int land = 0; land < lands; land++) {
                    x = (x * 1103515245L + 12345L) % 2147483648L;
                    int odds = hasBit(warLands, land) ? down[land] : up[land];
                    if (x / 65536 % WHOLE < odds) {
                        warLands ^= 1 << land;
                    }
                }
                together += Integer.bitCount(warLands);
            }
            return together;
        }

        long digestFrom(long start) {
            long h = start;
            for (int land = 0; land < lands; land++) {
                h = 31 * h + tonight.belief[land];
                h = 31 * h + up[land];
                h = 31 * h + down[land];
            }
            for (int a = 0; a < lands; a++) {
                for (int b = a + 1; b < lands; b++) {
                    h = 31 * h + ways[a][b];
                }
            }
            for (int bird = 0; bird < BIRDS; bird++) {
                h = 31 * h + reaches[bird];
                h = 31 * h + forgets[bird];
                h = 31 * h + tonight.land[bird];
                h = 31 * h + tonight.kind[bird];
                h = 31 * h + oneIf(tonight.war[bird]);
            }
            for (int i = 0; i < caws.number; i++) {
                h = 31 * h + caws.crow[i];
                h = 31 * h + caws.land[i];
                h = 31 * h + oneIf(caws.war[i]);
            }
            return h;
        }
    }

    /**
     * Where both birds fly. A pair is 10 times bird 0's place and bird 1's; a place is a land or STAY,
     * so that pairs, rising, are the order in which like ones are taken.
     */
    private static final class Flights {
        private static final int STAY = 7, PLACES = 8;

        private final int[] open = new int[BIRDS];
        /** What a flight to an open place gains; to stay gains 0 at any time. */
        private final int[][] gain = new int[BIRDS][PLACES];
        private final int[] ahead = new int[MOST_LANDS];
        private final int[] planPairs = new int[MOST_EVENINGS];
        private int planDoubt;

        /** The pair of most worth; pairGain and thirdGain then tell of the same lands. */
        int pairOfMostWorth(World world, int lands) {
            openPlaces(world, lands);
            for (int bird = 0; bird < BIRDS; bird++) {
                for (int land = 0; land < world.lands; land++) {
                    if (hasBit(open[bird], land)) {
                        gain[bird][land] = world.flightWorth(bird, land);
                    }
                }
            }
            return bestPair();
        }

        int pairGain(int pair) {
            int first = pair / 10;
            int second = pair % 10;
            return isPlace(first) && isPlace(second) ? gain[0][first] + gain[1][second] : 0;
        }

        /** How much more the best three flights gain, the third one as bird 0's, than that pair. */
        int thirdGain(int pair) {
            int most = 0;
            for (int first = 0; first < PLACES; first++) {
                for (int second = 0; second < PLACES; second++) {
                    if (isOpen(first, second)) {
                        most = Math.max(most, gain[0][first] + gain[1][second] + gainBeside(first, second));
                    }
                }
            }
            return most - pairGain(pair);
        }

        private int gainBeside(int first, int second) {
            int most = 0;
            for (int place = 0; place < PLACES; place++) {
                if (hasBit(open[0], place) && areApart(first, place) && areApart(second, place)) {
                    most = Math.max(most, gain[0][place]);
                }
            }
            return most;
        }

        private void openPlaces(World world, int lands) {
            for (int bird = 0; bird < BIRDS; bird++) {
                open[bird] = world.reachedLands(bird) & lands | 1 << STAY;
            }
        }

        private int bestPair() {
            int best = NONE;
            int most = 0;
            for (int first = 0; first < PLACES; first++) {
                for (int second = 0; second < PLACES; second++) {
                    int together = gain[0][first] + gain[1][second];
                    if (isOpen(first, second) && (best == NONE || together > most)) {
                        best = 10 * first + second;
                        most = together;
                    }
                }
            }
            return best;
        }

        private boolean isOpen(int first, int second) {
            return hasBit(open[0], first) && hasBit(open[1], second) && areApart(first, second);
        }

        private static boolean isPlace(int number) {
            return within(number, 0, PLACES - 1);
        }

        private static boolean areApart(int first, int second) {
            return first != second || first == STAY;
        }

        /** Finds the row of m evenings with the least doubt at last: planPairs, planDoubt. */
        void lookAhead(World world, int lands, int m) {
            openPlaces(world, lands);
            planDoubt = NONE;
            if (m == 1) {
                System.arraycopy(world.tonight.belief, 0, ahead, 0, MOST_LANDS);
                endPlan(world, lands, 0);
                return;
            }
            for (int first = 0; first < PLACES; first++) {
                for (int second = 0; second < PLACES; second++) {
                    if (isOpen(first, second)) {
                        goAhead(world, first, second);
                        if (endPlan(world, lands, 1)) {
                            planPairs[0] = 10 * first + second;
                        }
                    }
                }
            }
        }

        private void goAhead(World world, int first, int second) {
            for (int land = 0; land < world.lands; land++) {
                int b = world.tonight.belief[land];
                if (land == first || land == second) {
                    b = behindVisit(world, land == first ? 0 : 1, land, b);
                }
                ahead[land] = world.daysLater(land, b, 1);
            }
        }

        /**
         * Plans the last evening from the beliefs ahead of it: whether it leaves less doubt than any
         * plan yet. On it no flight bears on another land, so that what flights gain adds up.
         */
        private boolean endPlan(World world, int lands, int evening) {
            int doubt = 0;
            for (int land = 0; land < world.lands; land++) {
                int left = world.doubtTomorrow(land, ahead[land]);
                doubt += hasBit(lands, land) ? left : 0;
                for (int bird = 0; bird < BIRDS; bird++) {
                    if (hasBit(open[bird], land)) {
                        int visited = behindVisit(world, bird, land, ahead[land]);
                        gain[bird][land] = left - world.doubtTomorrow(land, visited);
                    }
                }
            }
            int pair = bestPair();
            doubt -= pairGain(pair);
            if (planDoubt != NONE && doubt >= planDoubt) {
                return false;
            }
            planDoubt = doubt;
            planPairs[evening] = pair;
            return true;
        }

        private static int behindVisit(World world, int bird, int land, int b) {
            return Odds.behindTiding(b, world.plainSureness(bird, land), Odds.likelierWar(b));
        }
    }

    /** Rounds of bird 0, day by day, over and over again. */
    private static final class Rounds {
        private final int[] row = new int[MOST_ROUND];
        private int days;
        private int reached;
        private int told;
        private int window;

        /** Whether there is a round of m days that sees the lands in any k; the first one is the row. */
        boolean find(World world, int m, int lands, int k) {
            days = m;
            reached = world.reachedLands(0);
            told = lands;
            // days behind the m-th are the same ones again
            window = Math.min(k, m);
            return (told & reached) == told && fill(this, 0);
        }

        private static boolean fill(Rounds rounds, int day) {
            if (day >= rounds.days || day >= MOST_ROUND) {
                return rounds.seesAll();
            }
            for (int land = 0; land < MOST_LANDS; land++) {
                rounds.row[day] = land;
                if (hasBit(rounds.reached, land) && rounds.mayGoOn(day) && fill(rounds, day + 1)) {
                    return true;
                }
            }
            return false;
        }

        /** Whether what the window open on this day has not seen yet still has days left in it. */
        private boolean mayGoOn(int day) {
            int start = Math.max(0, day + 1 - window);
            int filled = day + 1 - start;
            return Integer.bitCount(told & ~seenFrom(start, filled)) <= window - filled;
        }

        private boolean seesAll() {
            for (int start = 0; start < days; start++) {
                if ((seenFrom(start, window) & told) != told) {
                    return false;
                }
            }
            return true;
        }

        private int seenFrom(int start, int length) {
            int seen = 0;
            for (int day = start; day < start + length; day++) {
                int place = day < days ? day : day - days;
                seen |= within(place, 0, MOST_ROUND - 1) ? 1 << row[place] : 0;
            }
            return seen;
        }
    }

    /** THE TEXT, and the reading of a world from it. */
    private static final class Text {
        private static final int END = 0, WORD = 1, NUMBER = 2, SEMICOLON = 3, NO_TOKEN = 4;
        private static final int WORLD = 0, BELIEF = 1, CHANGE = 2, WAY = 3, BIRD = 4;
        private static final int BEFORE_FAULT = -10, BEFORE_REFUSED = -1000, MOST_FIGURES = 2;

        private final char[] bytes = new char[MOST_BYTES];
        private int length;
        /** The token last read is from start up to, but without, behind. */
        private int start;
        private int behind;
        private final int[] numbers = new int[3];

        int add(int c) {
            if (!within(c, 0, LAST_BYTE)) {
                return BAD;
            }
            if (length >= MOST_BYTES) {
                return FULL;
            }
            bytes[length] = (char) c;
            length++;
            return length;
        }

        int drop() {
            int was = length;
            length = 0;
            return was;
        }

        /** Tells the world anew by the text: how many items, or why not (then the world is of no use). */
        int tellTo(World world) {
            int refusedItem = NONE;
            int items = 0;
            behind = 0;
            while (items < MOST_BYTES) {
                int token = nextToken();
                if (token == END && items > 0) {
                    break;
                }
                int word = token == WORD ? wordNumber() : NONE;
                // world stands first, and nowhere else
                if (word == NONE || (word == WORLD) != (items == 0) || !readNumbers(word)) {
                    return BEFORE_FAULT - start;
                }
                if (refusedItem == NONE && tellItem(world, word) < 0) {
                    refusedItem = items;
                }
                items++;
            }
            return refusedItem == NONE ? items : BEFORE_REFUSED - refusedItem;
        }

        /** Reads an item's numbers and what ends it; if it can't, start is the fault. */
        private boolean readNumbers(int word) {
            int expected = numbersOf(word);
            for (int i = 0; i < expected; i++) {
                if (nextToken() != NUMBER) {
                    return false;
                }
                numbers[i] = numberRead();
            }
            return nextToken() == SEMICOLON;
        }

        private static int numbersOf(int word) {
            switch (word) {
                case WORLD: return 1;
                case BELIEF: return 2;
                default: return 3;
            }
        }

        private int tellItem(World world, int word) {
            switch (word) {
                case WORLD: return world.setLands(numbers[0]);
                case BELIEF: return world.setBelief(numbers[0], numbers[1]);
                case CHANGE: return world.setChange(numbers[0], numbers[1], numbers[2]);
                case WAY: return world.setWay(numbers[0], numbers[1], numbers[2]);
                default: return world.setBird(numbers[0], numbers[1], numbers[2]);
            }
        }

        private int nextToken() {
            start = behind;
            while (start < length && bytes[start] == ' ') {
                start++;
            }
            behind = start;
            if (start >= length) {
                return END;
            }
            behind++;
            if (isLetter(bytes[start])) {
                while (behind < length && isLetter(bytes[behind])) {
                    behind++;
                }
                return WORD;
            }
            if (isFigure(bytes[start])) {
                while (behind < length && isFigure(bytes[behind])) {
                    behind++;
                }
                return behind - start > MOST_FIGURES ? NO_TOKEN : NUMBER;
            }
            return bytes[start] == ';' ? SEMICOLON : NO_TOKEN;
        }

        private static boolean isLetter(char sign) {
            return sign >= 'a' && sign <= 'z';
        }

        private static boolean isFigure(char sign) {
            return sign >= '0' && sign <= '9';
        }

        private int numberRead() {
            int number = 0;
            for (int place = start; place < behind; place++) {
                number = 10 * number + (bytes[place] - '0');
            }
            return number;
        }

        private int wordNumber() {
            if (wordIs("world")) {
                return WORLD;
            }
            if (wordIs("belief")) {
                return BELIEF;
            }
            if (wordIs("change")) {
                return CHANGE;
            }
            if (wordIs("way")) {
                return WAY;
            }
            return wordIs("bird") ? BIRD : NONE;
        }

        private boolean wordIs(String name) {
            if (behind - start != name.length()) {
                return false;
            }
            for (int i = 0; i < name.length(); i++) {
                if (bytes[start + i] != name.charAt(i)) {
                    return false;
                }
            }
            return true;
        }
    }
}
