import java.math.BigInteger;
import java.util.ArrayDeque;
import java.util.ArrayList;
import java.util.BitSet;
import java.util.Deque;
import java.util.List;
import java.util.regex.Matcher;
import java.util.regex.Pattern;

/** The document told once more, by other means than the class: searches where the class reckons. */
final class Model {
    static final int UNKNOWN = Integer.MIN_VALUE;

    private static final Pattern ITEM = Pattern.compile("(f|l)(\\d{1,2});|(s|w)(\\d{1,2}),(\\d{1,2}),(\\d{1,2});");
    private static final int BAD = -1, NO = -2, FULL = -3, NONE = -4;

    private static final class Laid {
        int fields = 5;
        int limit = 40;
        final List<int[]> stiles = new ArrayList<>();
        final List<int[]> walkers = new ArrayList<>();
        int fault = NONE;
    }

    private static final class Things {
        int[] worn;
        int[] place;
        int[] credit;
        int[] latest;
        int[][] accounts;
        int treads;

        Things copy() {
            Things t = new Things();
            t.worn = worn.clone();
            t.place = place.clone();
            t.credit = credit.clone();
            t.latest = latest.clone();
            t.accounts = new int[accounts.length][];
            for (int i = 0; i < accounts.length; i++) {
                t.accounts[i] = accounts[i].clone();
            }
            t.treads = treads;
            return t;
        }
    }

    private String text = "";
    private Laid laid;
    private Things now;
    private final Deque<Things> past = new ArrayDeque<>();
    private final Deque<Things> kept = new ArrayDeque<>();
    private final List<int[]> seen = new ArrayList<>();

    Model() {
        begin(read(Fields.FIRST));
    }

    private void begin(Laid l) {
        laid = l;
        now = new Things();
        now.worn = new int[l.stiles.size()];
        int walkers = l.walkers.size();
        now.place = new int[walkers];
        now.credit = new int[walkers];
        now.latest = new int[walkers];
        now.accounts = new int[walkers][l.stiles.size()];
        for (int w = 0; w < walkers; w++) {
            now.place[w] = l.walkers.get(w)[1];
            now.latest[w] = NONE;
        }
        past.clear();
        kept.clear();
        seen.clear();
    }

    private static Laid read(String text) {
        Laid l = new Laid();
        Matcher m = ITEM.matcher(text);
        int at = 0;
        while (at < text.length()) {
            m.region(at, text.length());
            if (!m.lookingAt() || !take(l, m, text.substring(0, at))) {
                l.fault = at;
                return l;
            }
            at = m.end();
        }
        return l;
    }

    private static boolean take(Laid l, Matcher m, String ahead) {
        if (m.group(1) != null) {
            int n = Integer.parseInt(m.group(2));
            if (m.group(1).equals("l")) {
                l.limit = n;
                return n >= 10;
            }
            l.fields = n;
            return n >= 1 && n <= 8 && ahead.matches("[f0-9;]*");
        }
        int[] three = {Integer.parseInt(m.group(4)), Integer.parseInt(m.group(5)), Integer.parseInt(m.group(6))};
        if (three[0] > 3 || three[1] >= l.fields) {
            return false;
        }
        if (m.group(3).equals("s")) {
            l.stiles.add(three);
            return three[2] < l.fields && three[1] != three[2] && l.stiles.size() <= 9;
        }
        l.walkers.add(three);
        return three[2] >= 1 && three[2] <= 9 && l.walkers.size() <= 4;
    }

    private boolean noStile(int s) {
        return s < 0 || s >= laid.stiles.size();
    }

    private boolean noWalker(int w) {
        return w < 0 || w >= laid.walkers.size();
    }

    private boolean noField(int f) {
        return f < 0 || f >= laid.fields;
    }

    private boolean broken(Things t, int s) {
        return t.worn[s] >= laid.limit;
    }

    /** The fields at the other ends of the stiles at f, each behind its stile; with = broken ones too. */
    private List<int[]> over(Things t, int f, boolean with) {
        List<int[]> ways = new ArrayList<>();
        for (int s = 0; s < laid.stiles.size(); s++) {
            int[] stile = laid.stiles.get(s);
            if (with || !broken(t, s)) {
                if (stile[1] == f) {
                    ways.add(new int[] {s, stile[2], 1});
                } else if (stile[2] == f) {
                    ways.add(new int[] {s, stile[1], -1});
                }
            }
        }
        return ways;
    }

    private int wear(int w, int s) {
        int[] walker = laid.walkers.get(w);
        int[] times = {1, 2, 0, 0};
        return walker[2] * times[laid.stiles.get(s)[0]] * (walker[0] == 2 ? 2 : 1);
    }

    private int gain(int w, int s) {
        int[] gains = {1, 2, 1, 0};
        return laid.stiles.get(s)[0] == 3 ? 0 : gains[laid.walkers.get(w)[0]];
    }

    private boolean go(Things t, int w, int s) {
        for (int[] way : over(t, t.place[w], false)) {
            if (way[0] == s) {
                t.place[w] = way[1];
                t.accounts[w][s] += way[2];
                t.latest[w] = s;
                t.credit[w] += gain(w, s);
                t.worn[s] = Math.min(999, t.worn[s] + wear(w, s));
                t.treads++;
                return true;
            }
        }
        return false;
    }

    private void renew(Things t, int s) {
        t.worn[s] = 0;
        for (int[] accounts : t.accounts) {
            accounts[s] = 0;
        }
    }

    int write(int letter) {
        if (letter < 32 || letter > 126) {
            return BAD;
        }
        if (text.length() == 200) {
            return FULL;
        }
        text += (char) letter;
        return text.length();
    }

    int wipe() {
        int length = text.length();
        text = "";
        return length;
    }

    int fault() {
        return read(text).fault;
    }

    int lay() {
        Laid l = read(text);
        if (l.fault != NONE || l.walkers.isEmpty()) {
            return NO;
        }
        begin(l);
        return l.fields;
    }

    int stile(int s, int what) {
        if (noStile(s) || what < 0 || what > 4) {
            return BAD;
        }
        return what < 3 ? laid.stiles.get(s)[what] : what == 3 ? now.worn[s] : broken(now, s) ? 1 : 0;
    }

    int walker(int w, int what) {
        if (noWalker(w) || what < 0 || what > 5) {
            return BAD;
        }
        int[] all = {laid.walkers.get(w)[0], now.place[w], laid.walkers.get(w)[2], now.credit[w], level(now, w) ? 1 : 0, now.latest[w]};
        return all[what];
    }

    private boolean level(Things t, int w) {
        for (int account : t.accounts[w]) {
            if (account != 0) {
                return false;
            }
        }
        return true;
    }

    int account(int w, int s) {
        return noWalker(w) || noStile(s) ? BAD : 1000 + now.accounts[w][s];
    }

    private void remember(Things before) {
        past.addLast(before);
        if (past.size() > 8) {
            past.removeFirst();
        }
    }

    int tread(int w, int s) {
        if (noWalker(w) || noStile(s)) {
            return BAD;
        }
        Things before = now.copy();
        if (!go(now, w, s)) {
            return NO;
        }
        remember(before);
        return now.place[w];
    }

    int replace(int s) {
        if (noStile(s)) {
            return BAD;
        }
        remember(now.copy());
        int worn = now.worn[s];
        renew(now, s);
        return worn;
    }

    int sand(int s) {
        if (noStile(s)) {
            return BAD;
        }
        remember(now.copy());
        now.worn[s] = Math.min(999, now.worn[s] + 5);
        return now.worn[s];
    }

    int undo() {
        if (past.isEmpty()) {
            return NO;
        }
        now = past.removeLast();
        return past.size();
    }

    /** By breadth: fewest treads from a to b, also over one more stile between c and d, if there is one. */
    private int treads(int a, int b, int c, int d) {
        int[] far = new int[laid.fields];
        java.util.Arrays.fill(far, -1);
        far[a] = 0;
        Deque<Integer> next = new ArrayDeque<>();
        next.add(a);
        while (!next.isEmpty()) {
            int f = next.removeFirst();
            List<int[]> ways = over(now, f, false);
            if (f == c) {
                ways.add(new int[] {99, d});
            }
            if (f == d) {
                ways.add(new int[] {99, c});
            }
            for (int[] way : ways) {
                if (far[way[1]] < 0) {
                    far[way[1]] = far[f] + 1;
                    next.add(way[1]);
                }
            }
        }
        return far[b];
    }

    int way(int w, int f, int what) {
        if (noWalker(w) || noField(f) || what < 0 || what > 1) {
            return BAD;
        }
        int treads = treads(now.place[w], f, -1, -1);
        if (treads < 0) {
            return NONE;
        }
        if (what == 0) {
            return treads;
        }
        for (int[] way : over(now, now.place[w], false)) {
            if (treads(way[1], f, -1, -1) == treads - 1) {
                return way[0];
            }
        }
        return NONE;
    }

    /** By breadth over where he is and all his accounts, each at most one beyond what it is now and 0. */
    int even(int w) {
        if (noWalker(w)) {
            return BAD;
        }
        int stiles = laid.stiles.size();
        int[] low = new int[stiles];
        int[] wide = new int[stiles];
        long states = laid.fields;
        for (int s = 0; s < stiles; s++) {
            low[s] = Math.min(0, now.accounts[w][s]) - 1;
            wide[s] = Math.abs(now.accounts[w][s]) + 3;
            states *= wide[s];
            if (states > 400000) {
                return UNKNOWN;
            }
        }
        return evenByBreadth(w, low, wide, (int) states);
    }

    private int evenByBreadth(int w, int[] low, int[] wide, int states) {
        int stiles = wide.length;
        int[] step = new int[stiles];
        int unit = laid.fields;
        int first = now.place[w];
        int level = 0;
        for (int s = 0; s < stiles; s++) {
            step[s] = unit;
            first += unit * (now.accounts[w][s] - low[s]);
            level += unit * -low[s];
            unit *= wide[s];
        }
        BitSet been = new BitSet(states);
        List<Integer> ring = new ArrayList<>();
        ring.add(first);
        been.set(first);
        for (int treads = 0; !ring.isEmpty(); treads++) {
            List<Integer> outer = new ArrayList<>();
            for (int state : ring) {
                int f = state % laid.fields;
                if (state - f == level) {
                    return treads;
                }
                for (int[] way : over(now, f, true)) {
                    int s = way[0];
                    int account = state / step[s] % wide[s] + way[2];
                    int then = state - f + way[1] + way[2] * step[s];
                    if (account >= 0 && account < wide[s] && !been.get(then)) {
                        been.set(then);
                        outer.add(then);
                    }
                }
            }
            ring = outer;
        }
        return NONE;
    }

    int measure(int what) {
        if (what < 0 || what > 1) {
            return BAD;
        }
        for (int size = 0; size <= 9; size++) {
            for (int set = 0; set < 1 << laid.stiles.size(); set++) {
                if (Integer.bitCount(set) == size && tells(set)) {
                    return what == 0 ? set : size;
                }
            }
        }
        throw new IllegalStateException("all stiles tell all");
    }

    private boolean tells(int set) {
        for (int w = 0; w < laid.walkers.size(); w++) {
            boolean told = level(now, w);
            for (int s = 0; s < laid.stiles.size(); s++) {
                told |= (set >> s & 1) == 1 && now.accounts[w][s] != 0;
            }
            if (!told) {
                return false;
            }
        }
        return true;
    }

    private int sum(int c, int d) {
        int sum = 0;
        for (int a = 0; a < laid.fields; a++) {
            for (int b = a + 1; b < laid.fields; b++) {
                int treads = treads(a, b, c, d);
                sum += treads < 0 ? 20 : treads;
            }
        }
        return sum;
    }

    int fresh(int what) {
        if (what < 0 || what > 1) {
            return BAD;
        }
        int pair = NONE;
        int least = Integer.MAX_VALUE;
        for (int c = 0; c < laid.fields; c++) {
            for (int d = c + 1; d < laid.fields; d++) {
                boolean free = true;
                for (int[] way : over(now, c, true)) {
                    free &= way[1] != d;
                }
                if (free && sum(c, d) < least) {
                    least = sum(c, d);
                    pair = 10 * c + d;
                }
            }
        }
        return pair == NONE || what == 0 ? pair : sum(-1, -1) - least;
    }

    int lasts(int s, int w) {
        if (noStile(s) || noWalker(w)) {
            return BAD;
        }
        int worn = now.worn[s];
        for (int treads = 0; treads <= 100; treads++) {
            if (worn >= laid.limit) {
                return treads;
            }
            worn += wear(w, s);
        }
        return NONE;
    }

    int richest() {
        int most = 0;
        for (int credit : now.credit) {
            most = Math.max(most, credit);
        }
        for (int w = 0; ; w++) {
            if (now.credit[w] == most) {
                return w;
            }
        }
    }

    int see(int s, int v) {
        if (noStile(s) || v < 0 || v > 999) {
            return BAD;
        }
        if (seen.size() == 6) {
            return FULL;
        }
        seen.add(new int[] {s, v});
        return seen.size();
    }

    int forget() {
        int size = seen.size();
        seen.clear();
        return size;
    }

    int whose(int s) {
        if (noStile(s)) {
            return BAD;
        }
        int bits = 0;
        for (int w = 0; w < laid.walkers.size(); w++) {
            boolean can = true;
            for (int[] one : seen) {
                can &= one[0] != s || often(w, s, one[1]) != NONE;
            }
            bits += can ? 1 << w : 0;
        }
        return bits;
    }

    int often(int w, int s, int v) {
        if (noWalker(w) || noStile(s) || v < 0 || v > 999) {
            return BAD;
        }
        for (int treads = 0; treads <= 999; treads++) {
            if (treads * wear(w, s) == v) {
                return treads;
            }
        }
        return NONE;
    }

    int drunk(int w, int f, int n, int x, int part) {
        if (noWalker(w) || noField(f) || n < 0 || n > 8 || x < 0 || x > 10 || part < 0 || part > 1) {
            return BAD;
        }
        BigInteger above = times(now.place[w], f, n, x);
        BigInteger below = BigInteger.TEN.pow(n);
        BigInteger both = above.gcd(below);
        return (part == 0 ? above : below).divide(both).intValueExact();
    }

    private BigInteger times(int f, int wanted, int n, int x) {
        if (n == 0) {
            return f == wanted ? BigInteger.ONE : BigInteger.ZERO;
        }
        List<int[]> ways = over(now, f, false);
        if (ways.isEmpty()) {
            return times(f, wanted, n - 1, x).multiply(BigInteger.TEN);
        }
        BigInteger lowest = times(ways.get(0)[1], wanted, n - 1, x).multiply(BigInteger.valueOf(x));
        BigInteger highest = times(ways.get(ways.size() - 1)[1], wanted, n - 1, x).multiply(BigInteger.valueOf(10 - x));
        return lowest.add(highest);
    }

    int year(int z, int n, int what) {
        if (z < 0 || z > 9999 || n < 1 || n > 60 || what < 0 || what > 1) {
            return BAD;
        }
        Things t = now.copy();
        for (int k = 0; k < n; k++) {
            BigInteger x = BigInteger.valueOf(7919L * z + 6151L * k + 1);
            int draw = x.pow(2).mod(BigInteger.valueOf(65521)).intValue();
            int w = draw % laid.walkers.size();
            List<int[]> ways = over(t, t.place[w], false);
            List<int[]> all = over(t, t.place[w], true);
            if (!ways.isEmpty()) {
                go(t, w, ways.get(draw / 4 % ways.size())[0]);
            } else if (!all.isEmpty()) {
                renew(t, all.get(0)[0]);
            }
        }
        return what == 0 ? sum(t.credit) : brokenOnes(t);
    }

    int keep() {
        if (kept.size() == 2) {
            return FULL;
        }
        kept.addLast(now.copy());
        return kept.size();
    }

    int back() {
        if (kept.isEmpty()) {
            return NO;
        }
        now = kept.removeLast();
        past.clear();
        return kept.size();
    }

    private static int sum(int[] row) {
        int sum = 0;
        for (int one : row) {
            sum += one;
        }
        return sum;
    }

    private int brokenOnes(Things t) {
        int broken = 0;
        for (int s = 0; s < laid.stiles.size(); s++) {
            broken += broken(t, s) ? 1 : 0;
        }
        return broken;
    }

    int count(int what) {
        int[] all = {laid.fields, laid.stiles.size(), laid.walkers.size(), now.treads, brokenOnes(now), sum(now.worn),
            sum(now.credit), seen.size(), past.size(), kept.size(), text.length()};
        return what < 0 || what > 10 ? BAD : all[what];
    }
}
