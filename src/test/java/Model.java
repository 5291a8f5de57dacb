import java.util.ArrayList;
import java.util.Arrays;
import java.util.HashMap;
import java.util.List;
import java.util.Map;
import java.util.TreeMap;

/** The document told again in the slowest and plainest way, to be compared with the class. */
public final class Model {
    private static final String[] KINDS = {"PLAIN", "LATE", "FORGOTTEN", "CROW", "THOUGHT", "HEARSAY"};

    /** What an image keeps; every change is made on a copy that takes its place. */
    private static final class State implements Cloneable {
        int n = 4;
        int day = 0;
        int[] belief = {8, 8, 8, 8};
        int[] u = {2, 2, 2, 2};
        int[] d = {2, 2, 2, 2};
        Map<Integer, Integer> ways = new TreeMap<>();
        int[][] birds = {{12, 4}, {12, 4}};
        int[][] told = {null, null};
        List<int[]> caws = new ArrayList<>();
        List<State> past = new ArrayList<>();

        State copy() {
            State s = new State();
            s.n = n;
            s.day = day;
            s.belief = belief.clone();
            s.u = u.clone();
            s.d = d.clone();
            s.ways = new TreeMap<>(ways);
            s.birds = new int[][] {birds[0].clone(), birds[1].clone()};
            s.told = told.clone();
            s.caws = new ArrayList<>(caws);
            s.past = new ArrayList<>(past);
            return s;
        }
    }

    private State s = new State();
    private String text = "";
    private final Map<Integer, State> images = new HashMap<>();
    private final int[] status = new int[3];

    private int refuse(int reason) {
        return refuse(reason, reason);
    }

    private int refuse(int reason, int answer) {
        status[-2 - reason]++;
        return answer;
    }

    private boolean land(int land) {
        return land >= 0 && land < s.n;
    }

    private boolean bits(int lands) {
        return lands >= 0 && lands < Math.pow(2, s.n);
    }

    private static boolean in(int x, int low, int high) {
        return low <= x && x <= high;
    }

    public int world(int n) {
        if (!in(n, 1, 6)) {
            return refuse(-2);
        }
        int was = s.n;
        s = new State();
        s.n = n;
        s.belief = new int[n];
        s.u = new int[n];
        s.d = new int[n];
        Arrays.fill(s.belief, 8);
        Arrays.fill(s.u, 2);
        Arrays.fill(s.d, 2);
        return was;
    }

    public int belief(int land, int b) {
        if (!land(land) || !in(b, 0, 16)) {
            return refuse(-2);
        }
        int was = s.belief[land];
        s.belief[land] = b;
        s.past.clear();
        return was;
    }

    public int change(int land, int u, int d) {
        if (!land(land) || !in(u, 0, 16) || !in(d, 0, 16)) {
            return refuse(-2);
        }
        int was = s.u[land] * 100 + s.d[land];
        s.u[land] = u;
        s.d[land] = d;
        s.past.clear();
        return was;
    }

    private static int key(int a, int b) {
        return 10 * Math.min(a, b) + Math.max(a, b);
    }

    public int way(int a, int b, int hours) {
        if (!land(a) || !land(b) || a == b || !in(hours, 0, 9)) {
            return refuse(-2);
        }
        Integer was = s.ways.remove(key(a, b));
        if (hours > 0) {
            s.ways.put(key(a, b), hours);
        }
        s.told = new int[2][];
        s.past.clear();
        return was == null ? 0 : was;
    }

    public int bird(int bird, int reaches, int forgets) {
        if (!in(bird, 0, 1) || !in(reaches, 0, 40) || !in(forgets, 1, 9)) {
            return refuse(-2);
        }
        int was = s.birds[bird][0];
        s.birds[bird] = new int[] {reaches, forgets};
        s.told = new int[2][];
        s.past.clear();
        return was;
    }

    public int type(int c) {
        if (!in(c, 0, 127)) {
            return refuse(-2);
        }
        if (text.length() == 150) {
            return refuse(-4);
        }
        text += (char) c;
        return text.length();
    }

    public int clear() {
        int was = text.length();
        text = "";
        return was;
    }

    /** The place of the first byte that can not go on, by matching ever longer rows of tokens. */
    public int read() {
        List<String> tokens = new ArrayList<>();
        List<Integer> places = new ArrayList<>();
        java.util.regex.Matcher m = java.util.regex.Pattern.compile("[a-z]+|[0-9]+|[^ a-z0-9]",
            java.util.regex.Pattern.DOTALL).matcher(text);
        while (m.find()) {
            tokens.add(m.group());
            places.add(m.start());
        }
        String world = "world 9 ;";
        String item = "(belief 9 9|change 9 9 9|way 9 9 9|bird 9 9 9) ;";
        String row = "";
        for (int i = 0; i < tokens.size(); i++) {
            row += (i == 0 ? "" : " ") + (tokens.get(i).matches("[0-9]{1,2}") ? "9" : tokens.get(i));
            java.util.regex.Matcher so = java.util.regex.Pattern.compile(world + "( " + item + ")*").matcher(row + " ");
            boolean whole = row.matches(world + "( " + item + ")*");
            if (!whole && !(!so.matches() && so.hitEnd())) {
                return -10 - places.get(i);
            }
        }
        if (!row.matches(world + "( " + item + ")*")) {
            return -10 - text.length();
        }
        String[] items = String.join(" ", tokens).split(" ;");
        State before = s;
        int[] statusBefore = status.clone();
        for (int i = 0; i < items.length; i++) {
            String[] words = items[i].trim().split(" ");
            int[] a = new int[3];
            for (int j = 1; j < words.length; j++) {
                a[j - 1] = Integer.parseInt(words[j]);
            }
            int answer = words[0].equals("world") ? world(a[0]) : words[0].equals("belief") ? belief(a[0], a[1])
                : words[0].equals("change") ? change(a[0], a[1], a[2]) : words[0].equals("way") ? way(a[0], a[1], a[2])
                : bird(a[0], a[1], a[2]);
            if (answer < 0) {
                s = before;
                System.arraycopy(statusBefore, 0, status, 0, 3);
                return -1000 - i;
            }
            // the class that is compared makes a world anew: what went before must not be touched
            s = s.copy();
        }
        return items.length;
    }

    private int far(int land) {
        return far(0, land, 0);
    }

    private int far(int at, int land, int been) {
        if (at == land) {
            return 0;
        }
        int least = -1;
        for (int next = 0; next < s.n; next++) {
            Integer way = s.ways.get(key(at, next));
            if (next != at && way != null && (been >> next & 1) == 0) {
                int rest = far(next, land, been | 1 << at);
                if (rest >= 0 && (least < 0 || way + rest < least)) {
                    least = way + rest;
                }
            }
        }
        return least;
    }

    private boolean reaches(int bird, int land) {
        return far(land) >= 0 && far(land) * 2 <= s.birds[bird][0];
    }

    private int sureness(int bird, int land, String kind) {
        switch (kind) {
            case "PLAIN": return Math.max(8, 16 - far(land) / s.birds[bird][1]);
            case "LATE": return sureness(bird, land, "PLAIN");
            case "FORGOTTEN": return Math.max(8, sureness(bird, land, "PLAIN") - 2);
            case "CROW": return 16 - sureness(bird, land, "PLAIN");
            case "THOUGHT": return (sureness(bird, land, "FORGOTTEN") - 8) / 2 + 8;
            default: return Math.max(8, sureness(bird, land, "LATE") - 3);
        }
    }

    private int lateness(String kind) {
        switch (kind) {
            case "PLAIN": return 0;
            case "LATE": return lateness("PLAIN") + 1;
            case "FORGOTTEN": return lateness("PLAIN");
            case "CROW": return lateness("PLAIN");
            case "THOUGHT": return lateness("FORGOTTEN");
            default: return 2 * lateness("LATE") + 1;
        }
    }

    private static int behind(int b, int w, boolean war) {
        int v = war ? w : 16 - w;
        int all = b * v + (16 - b) * (16 - v);
        return all == 0 ? b : 16 * b * v / all;
    }

    private int dayOn(int land, int b) {
        return (b * (16 - s.d[land]) + (16 - b) * s.u[land]) / 16;
    }

    public int tell(int bird, int land, int kind, boolean war) {
        if (!in(bird, 0, 1) || !land(land) || !in(kind, 0, 5)) {
            return refuse(-2);
        }
        if (!reaches(bird, land)) {
            return refuse(-3);
        }
        s.told = s.told.clone();
        s.told[bird] = new int[] {land, kind, war ? 1 : 0};
        return sureness(bird, land, KINDS[kind]);
    }

    public int evening() {
        if (s.day == 900) {
            return refuse(-3);
        }
        State next = s.copy();
        next.past.add(s);
        if (next.past.size() > 8) {
            next.past.remove(0);
        }
        for (int bird = 0; bird < 2; bird++) {
            if (s.told[bird] != null) {
                int land = s.told[bird][0];
                String kind = KINDS[s.told[bird][1]];
                int b = behind(next.belief[land], sureness(bird, land, kind), s.told[bird][2] == 1);
                for (int late = 0; late < lateness(kind); late++) {
                    b = dayOn(land, b);
                }
                next.belief[land] = b;
            }
        }
        for (int land = 0; land < s.n; land++) {
            next.belief[land] = dayOn(land, next.belief[land]);
        }
        next.told = new int[2][];
        next.day = s.day + 1;
        s = next;
        return s.day;
    }

    public int undo() {
        if (s.past.isEmpty()) {
            return refuse(-3);
        }
        List<State> past = new ArrayList<>(s.past);
        s = past.remove(past.size() - 1).copy();
        s.past = past;
        return 1;
    }

    public int of(int land, int what) {
        if (!land(land) || !in(what, 0, 4)) {
            return refuse(-2);
        }
        int b = s.belief[land];
        return new int[] {b, s.u[land], s.d[land], doubt(b), far(land)}[what];
    }

    private static int doubt(int b) {
        return b > 8 ? 16 - b : b;
    }

    public int about(int bird, int what) {
        if (!in(bird, 0, 1) || !in(what, 0, 3)) {
            return refuse(-2);
        }
        int reached = 0;
        for (int land = 0; land < s.n; land++) {
            reached += reaches(bird, land) ? Math.pow(2, land) : 0;
        }
        return new int[] {s.birds[bird][0], s.birds[bird][1], reached, s.told[bird] == null ? -1 : s.told[bird][0]}[what];
    }

    public int hours(int a, int b) {
        if (!land(a) || !land(b) || a == b) {
            return refuse(-2);
        }
        return s.ways.getOrDefault(key(a, b), 0);
    }

    public int sure(int bird, int land, int kind, int what) {
        if (!in(bird, 0, 1) || !land(land) || !in(kind, 0, 5) || !in(what, 0, 1)) {
            return refuse(-2);
        }
        if (!reaches(bird, land)) {
            return refuse(-3);
        }
        return what == 0 ? sureness(bird, land, KINDS[kind]) : lateness(KINDS[kind]);
    }

    public int ahead(int land, int m) {
        if (!land(land) || !in(m, 0, 30)) {
            return refuse(-2);
        }
        return aheadFrom(land, s.belief[land], m);
    }

    private int aheadFrom(int land, int b, int m) {
        return m == 0 ? b : aheadFrom(land, dayOn(land, b), m - 1);
    }

    public int worth(int bird, int land) {
        if (!in(bird, 0, 1) || !land(land)) {
            return refuse(-2, -100000);
        }
        if (!reaches(bird, land)) {
            return refuse(-3, -200000);
        }
        return worthOf(bird, land);
    }

    private int worthOf(int bird, int land) {
        int b = s.belief[land];
        int w = sureness(bird, land, "PLAIN");
        int t = b * w + (16 - b) * (16 - w);
        return 256 * doubt(b) - doubt(behind(b, w, true)) * t - doubt(behind(b, w, false)) * (256 - t);
    }

    /** Where birds that are as these fly, each to a told land that it reaches or staying (7), all apart. */
    private List<int[]> rows(int lands, int... birds) {
        List<int[]> rows = new ArrayList<>();
        rows.add(new int[0]);
        for (int bird : birds) {
            List<int[]> longer = new ArrayList<>();
            for (int[] row : rows) {
                for (int place = 0; place < 8; place++) {
                    int to = place;
                    boolean may = to == 7 || (to < s.n && (lands >> to & 1) == 1 && reaches(bird, to)
                        && Arrays.stream(row).noneMatch(p -> p == to));
                    if (may) {
                        int[] more = Arrays.copyOf(row, row.length + 1);
                        more[row.length] = to;
                        longer.add(more);
                    }
                }
            }
            rows = longer;
        }
        return rows;
    }

    private int[] best(int lands, int... birds) {
        int[] best = null;
        int most = 0;
        for (int[] row : rows(lands, birds)) {
            int sum = 0;
            for (int i = 0; i < row.length; i++) {
                sum += row[i] == 7 ? 0 : worthOf(birds[i], row[i]);
            }
            if (best == null || sum > most) {
                best = row;
                most = sum;
            }
        }
        return new int[] {10 * best[0] + best[1], most};
    }

    public int send(int lands, int what) {
        if (!bits(lands) || !in(what, 0, 1)) {
            return refuse(-2);
        }
        return best(lands, 0, 1)[what];
    }

    public int third(int lands) {
        if (!bits(lands)) {
            return refuse(-2);
        }
        return best(lands, 0, 1, 0)[1] - best(lands, 0, 1)[1];
    }

    public int plan(int m, int lands, int i) {
        if (!in(m, 1, 2) || !bits(lands) || i < -1) {
            return refuse(-2, -10);
        }
        if (i >= m) {
            return -5;
        }
        List<int[]> rows = rows(lands, 0, 1);
        List<List<int[]>> plans = new ArrayList<>();
        for (int[] first : rows) {
            if (m == 1) {
                plans.add(List.of(first));
            } else {
                for (int[] second : rows) {
                    plans.add(List.of(first, second));
                }
            }
        }
        List<int[]> best = null;
        int least = 0;
        for (List<int[]> plan : plans) {
            int left = doubtBehind(plan, lands);
            if (best == null || left < least) {
                best = plan;
                least = left;
            }
        }
        return i == -1 ? least : 10 * best.get(i)[0] + best.get(i)[1];
    }

    private int doubtBehind(List<int[]> plan, int lands) {
        int[] b = s.belief.clone();
        for (int[] row : plan) {
            for (int bird = 0; bird < 2; bird++) {
                int to = row[bird];
                if (to != 7) {
                    b[to] = behind(b[to], sureness(bird, to, "PLAIN"), b[to] >= 8);
                }
            }
            for (int land = 0; land < s.n; land++) {
                b[land] = dayOn(land, b[land]);
            }
        }
        int sum = 0;
        for (int land = 0; land < s.n; land++) {
            sum += (lands >> land & 1) * doubt(b[land]);
        }
        return sum;
    }

    public int noon(int g, int l) {
        if (!in(g, 0, 99) || !in(l, 0, 99)) {
            return refuse(-2);
        }
        for (int p = 0;; p++) {
            if (g * (16 - p) <= l * p) {
                return p;
            }
        }
    }

    public int mixed(int g, int l, int otherG, int otherL) {
        if (!in(g, 0, 99) || !in(l, 0, 99) || !in(otherG, 0, 99) || !in(otherL, 0, 99)) {
            return refuse(-2, -10);
        }
        for (int p = 0; p <= 16; p++) {
            int q = 16 - p;
            if (g * (16 - p) <= l * p && otherG * (16 - q) <= otherL * q) {
                return p;
            }
        }
        return -1;
    }

    public int round(int m, int lands, int k, int i) {
        if (!in(m, 1, 5) || !bits(lands) || !in(k, 1, 12) || i < 0) {
            return refuse(-2, -10);
        }
        int[] row = new int[m];
        do {
            if (isRound(row, lands, k)) {
                return i < m ? row[i] : -5;
            }
        } while (next(row));
        return -1;
    }

    private boolean isRound(int[] row, int lands, int k) {
        for (int land : row) {
            if (!reaches(0, land)) {
                return false;
            }
        }
        for (int start = 0; start < 30; start++) {
            int seen = 0;
            for (int day = start; day < start + k; day++) {
                seen |= 1 << row[day % row.length];
            }
            if ((lands & ~seen) != 0) {
                return false;
            }
        }
        return true;
    }

    private boolean next(int[] row) {
        for (int at = row.length - 1; at >= 0; at--) {
            if (++row[at] < s.n) {
                return true;
            }
            row[at] = 0;
        }
        return false;
    }

    public int crow(int c, int land, boolean war) {
        if (!in(c, 0, 3) || !land(land)) {
            return refuse(-2);
        }
        if (s.caws.size() == 8) {
            return refuse(-4);
        }
        s.caws.add(new int[] {c, land, war ? 1 : 0});
        s.past.clear();
        return s.caws.size();
    }

    public int hush() {
        int was = s.caws.size();
        s.caws.clear();
        s.past.clear();
        return was;
    }

    public int liars(int what) {
        if (!in(what, 0, 1)) {
            return refuse(-2, -10);
        }
        int sets = 0;
        int inAll = 15;
        for (int liars = 0; liars < 16; liars++) {
            Map<Integer, Integer> truth = new HashMap<>();
            boolean may = true;
            for (int[] caw : s.caws) {
                int is = (liars >> caw[0] & 1) == 1 ? 1 - caw[2] : caw[2];
                Integer other = truth.put(caw[1], is);
                may &= other == null || other == is;
            }
            if (may) {
                sets++;
                inAll &= liars;
            }
        }
        return what == 0 ? sets : sets == 0 ? -1 : inAll;
    }

    public int leftOut(int k, int a, int b, int land) {
        if (!in(k, 0, 6) || !land(a) || !land(b) || land != -1 && !land(land)) {
            return refuse(-2);
        }
        return setsOf(k, a, b, land, 0);
    }

    private int setsOf(int k, int a, int b, int land, int at) {
        if (at == s.n) {
            return k == 0 ? 1 : 0;
        }
        int with = setsOf(k - 1, a, b, land, at + 1);
        return at == a || at == b || at == land ? with : with + setsOf(k, a, b, land, at + 1);
    }

    public int mornings(int m, int seed) {
        if (!in(m, 0, 60) || !in(seed, 0, 999999)) {
            return refuse(-2);
        }
        long x = seed;
        boolean[] war = new boolean[s.n];
        int sum = 0;
        for (int morning = 0; morning < m; morning++) {
            for (int land = 0; land < s.n; land++) {
                x = (x * 1103515245L + 12345) & 0x7fffffffL;
                war[land] ^= (x >> 16 & 15) < (war[land] ? s.d[land] : s.u[land]);
            }
            for (boolean w : war) {
                sum += w ? 1 : 0;
            }
        }
        return sum;
    }

    public int image(int i) {
        if (!in(i, 0, 1)) {
            return refuse(-2);
        }
        images.put(i, s.copy());
        return 1;
    }

    public int from(int i) {
        if (!in(i, 0, 1)) {
            return refuse(-2);
        }
        if (!images.containsKey(i)) {
            return refuse(-3);
        }
        s = images.get(i).copy();
        return 1;
    }

    public int status(int what) {
        if (!in(what, 0, 2)) {
            return refuse(-2, -1);
        }
        return status[what];
    }

    public int count(int what) {
        if (!in(what, 0, 5)) {
            return refuse(-2);
        }
        return new int[] {s.n, s.day, s.ways.size(), s.caws.size(), s.past.size(), text.length()}[what];
    }

    public long digest() {
        List<Integer> v = new ArrayList<>();
        for (int what = 0; what < 6; what++) {
            v.add(count(what));
        }
        for (int land = 0; land < s.n; land++) {
            v.addAll(List.of(s.belief[land], s.u[land], s.d[land]));
        }
        for (int a = 0; a < s.n; a++) {
            for (int b = a + 1; b < s.n; b++) {
                v.add(s.ways.getOrDefault(key(a, b), 0));
            }
        }
        for (int bird = 0; bird < 2; bird++) {
            v.addAll(List.of(s.birds[bird][0], s.birds[bird][1]));
            int[] t = s.told[bird] == null ? new int[] {-1, 0, 0} : s.told[bird];
            v.addAll(List.of(t[0], t[1], t[2]));
        }
        for (int[] caw : s.caws) {
            v.addAll(List.of(caw[0], caw[1], caw[2]));
        }
        long h = 911;
        for (int each : v) {
            h = 31 * h + each;
        }
        return h;
    }
}
