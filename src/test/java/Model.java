import java.math.BigInteger;
import java.util.ArrayDeque;
import java.util.ArrayList;
import java.util.Arrays;
import java.util.HashSet;
import java.util.LinkedHashSet;
import java.util.List;
import java.util.Set;

/** The document a second time, slowly and by other ways, to hold the program against. */
final class Model {
    static final int UNKNOWN = -1, OUTSIDE = -2, STATE = -3, FULL = -4, NONE = -9;
    private static final int[] LONG = {5, 10, 14, 17, 19, 20};

    static final class Piece {
        final int owner;
        int a;
        int b;

        Piece(int owner, int a, int b) {
            this.owner = owner;
            this.a = a;
            this.b = b;
        }
    }

    static final class Thread {
        int kind;
        int at;
        final List<Piece> wound = new ArrayList<>();
    }

    static final class World {
        final List<Thread> threads = new ArrayList<>();
        final List<Piece> lying = new ArrayList<>();

        World copy() {
            World w = new World();
            List<Piece> mine = new ArrayList<>();
            List<Piece> its = new ArrayList<>();
            for (Thread t : threads) {
                Thread u = new Thread();
                u.kind = t.kind;
                u.at = t.at;
                for (Piece p : t.wound) {
                    Piece q = new Piece(p.owner, p.a, p.b);
                    u.wound.add(q);
                    mine.add(p);
                    its.add(q);
                }
                w.threads.add(u);
            }
            for (Piece p : lying) {
                w.lying.add(its.get(identity(mine, p)));
            }
            return w;
        }

        static int identity(List<Piece> list, Piece p) {
            for (int i = 0; i < list.size(); i++) {
                if (list.get(i) == p) {
                    return i;
                }
            }
            throw new IllegalStateException();
        }

        boolean may(int t, int nail) {
            if (t < 0 || t >= threads.size() || nail < 0 || nail > 11) {
                return false;
            }
            Thread th = threads.get(t);
            if (nail == th.at || th.wound.size() >= 12) {
                return false;
            }
            boolean beside = (th.at + 1) % 12 == nail || (nail + 1) % 12 == th.at;
            if ((th.kind == 1 || th.kind == 3) && beside) {
                return false;
            }
            if (th.kind == 2) {
                for (Piece p : th.wound) {
                    if (cross(p.a, p.b, th.at, nail)) {
                        return false;
                    }
                }
            }
            return th.kind != 3 || length(th.wound) + longOf(th.at, nail) <= 80;
        }

        int wind(int t, int nail) {
            Thread th = threads.get(t);
            Piece p = new Piece(t, th.at, nail);
            int n = crossedBy(p);
            lying.add(p);
            th.wound.add(p);
            th.at = nail;
            return n;
        }

        int crossedBy(Piece p) {
            int n = 0;
            for (Piece q : lying) {
                if (cross(p.a, p.b, q.a, q.b)) {
                    n++;
                }
            }
            return n;
        }

        Piece last(int t) {
            List<Piece> w = threads.get(t).wound;
            return w.isEmpty() ? null : w.get(w.size() - 1);
        }

        boolean mayUnwind(int t) {
            if (t < 0 || t >= threads.size() || last(t) == null) {
                return false;
            }
            Piece p = last(t);
            for (int i = identity(lying, p) + 1; i < lying.size(); i++) {
                if (cross(p.a, p.b, lying.get(i).a, lying.get(i).b)) {
                    return false;
                }
            }
            return true;
        }

        int unwind(int t) {
            Piece p = last(t);
            lying.remove(identity(lying, p));
            threads.get(t).wound.remove(threads.get(t).wound.size() - 1);
            threads.get(t).at = p.a;
            return p.a;
        }

        boolean mayCut(int t) {
            return t >= 0 && t < threads.size() && last(t) != null;
        }

        int cut(int t) {
            int n = threads.get(t).wound.size();
            threads.get(t).wound.clear();
            lying.removeIf(p -> p.owner == t);
            return n;
        }

        void turn() {
            threads.forEach(t -> t.at = t.at == 11 ? 0 : t.at + 1);
            lying.forEach(p -> { p.a = p.a == 11 ? 0 : p.a + 1; p.b = p.b == 11 ? 0 : p.b + 1; });
        }

        void behind() {
            threads.forEach(t -> t.at = t.at == 0 ? 0 : 12 - t.at);
            lying.forEach(p -> { p.a = p.a == 0 ? 0 : 12 - p.a; p.b = p.b == 0 ? 0 : 12 - p.b; });
            java.util.Collections.reverse(lying);
        }

        int crossings() {
            return pairs(lying);
        }

        static int pairs(List<Piece> of) {
            int n = 0;
            for (int i = 0; i < of.size(); i++) {
                for (int j = 0; j < i; j++) {
                    if (cross(of.get(i).a, of.get(i).b, of.get(j).a, of.get(j).b)) {
                        n++;
                    }
                }
            }
            return n;
        }

        int crossings(int one, int other) {
            if (one == other) {
                return pairs(threads.get(one).wound);
            }
            int n = 0;
            for (Piece p : threads.get(one).wound) {
                for (Piece q : threads.get(other).wound) {
                    if (cross(p.a, p.b, q.a, q.b)) {
                        n++;
                    }
                }
            }
            return n;
        }

        List<Piece> lines() {
            Set<String> met = new LinkedHashSet<>();
            List<Piece> out = new ArrayList<>();
            for (Piece p : lying) {
                if (met.add(Math.min(p.a, p.b) + "-" + Math.max(p.a, p.b))) {
                    out.add(p);
                }
            }
            return out;
        }

        int parts() {
            List<Piece> lines = lines();
            return 1 + lines.size() + pairs(lines);
        }

        int above(int i) {
            Set<Integer> up = new HashSet<>();
            ArrayDeque<Integer> todo = new ArrayDeque<>();
            todo.add(i);
            while (!todo.isEmpty()) {
                int k = todo.remove();
                for (int j = k + 1; j < lying.size(); j++) {
                    Piece p = lying.get(k);
                    Piece q = lying.get(j);
                    if (cross(p.a, p.b, q.a, q.b) && up.add(j)) {
                        todo.add(j);
                    }
                }
            }
            return up.size();
        }

        int strokes() {
            List<Piece> lines = lines();
            return lines.size() <= 9 ? fewestTrails(lines) : strokesByEnds(lines);
        }

        /** Tries all ways to share the lines out among trails. */
        private static int fewestTrails(List<Piece> lines) {
            int all = (1 << lines.size()) - 1;
            boolean[][] ends = new boolean[all + 1][12];
            boolean[] trail = new boolean[all + 1];
            for (int set = 1; set <= all; set++) {
                for (int e = 0; e < lines.size(); e++) {
                    if ((set >> e & 1) == 1) {
                        int rest = set & ~(1 << e);
                        Piece p = lines.get(e);
                        ends[set][p.b] |= rest == 0 || ends[rest][p.a];
                        ends[set][p.a] |= rest == 0 || ends[rest][p.b];
                    }
                }
                for (boolean b : ends[set]) {
                    trail[set] |= b;
                }
            }
            int[] few = new int[all + 1];
            for (int set = 1; set <= all; set++) {
                few[set] = 99;
                for (int sub = set; sub > 0; sub = (sub - 1) & set) {
                    if (trail[sub]) {
                        few[set] = Math.min(few[set], few[set & ~sub] + 1);
                    }
                }
            }
            return few[all];
        }

        private static int strokesByEnds(List<Piece> lines) {
            int[] root = new int[12];
            int[] degree = new int[12];
            for (int i = 0; i < 12; i++) {
                root[i] = i;
            }
            for (Piece p : lines) {
                degree[p.a]++;
                degree[p.b]++;
                int from = root[p.a];
                for (int i = 0; i < 12; i++) {
                    if (root[i] == from) {
                        root[i] = root[p.b];
                    }
                }
            }
            int n = 0;
            for (int r = 0; r < 12; r++) {
                int odd = 0;
                boolean any = false;
                for (int i = 0; i < 12; i++) {
                    if (root[i] == r && degree[i] > 0) {
                        any = true;
                        odd += degree[i] % 2;
                    }
                }
                n += any ? Math.max(1, odd / 2) : 0;
            }
            return n;
        }
    }

    static boolean cross(int a, int b, int c, int d) {
        StringBuilder round = new StringBuilder();
        for (int n = 0; n < 12; n++) {
            round.append(n == a || n == b ? "x" : "").append(n == c || n == d ? "y" : "");
        }
        boolean unlike = new HashSet<>(Arrays.asList(a, b, c, d)).size() == 4;
        return unlike && (round.toString().equals("xyxy") || round.toString().equals("yxyx"));
    }

    static int longOf(int a, int b) {
        int d = Math.abs(a - b);
        return LONG[Math.min(d, 12 - d) - 1];
    }

    static int length(List<Piece> of) {
        int n = 0;
        for (Piece p : of) {
            n += longOf(p.a, p.b);
        }
        return n;
    }

    private final StringBuilder text = new StringBuilder();
    private World world = new World();
    private final ArrayList<World> row = new ArrayList<>();
    private final World[] slots = new World[2];
    private final List<int[]> seen = new ArrayList<>();
    private long theSeed = 0;

    private boolean no(int t) {
        return t < 0 || t >= world.threads.size();
    }

    private void act() {
        row.add(world.copy());
        if (row.size() > 14) {
            row.remove(0);
        }
    }

    int write(int letter) {
        if (letter < 0 || letter > 255) {
            return OUTSIDE;
        }
        if (text.length() == 48) {
            return FULL;
        }
        text.append((char) letter);
        return text.length();
    }

    int wipe() {
        int n = text.length();
        text.setLength(0);
        return n;
    }

    /** The world told by the letters, or null if no board begins so. */
    private static World begun(String t, boolean whole) {
        World w = new World();
        if (t.isEmpty()) {
            return whole ? null : w;
        }
        if (t.charAt(0) != 'N') {
            return null;
        }
        if (t.length() == 1) {
            return w;
        }
        if (t.charAt(1) != 'T') {
            return null;
        }
        String[] told = t.substring(2).split("T", -1);
        if (told.length > 4) {
            return null;
        }
        for (int i = 0; i < told.length; i++) {
            boolean open = !whole && i == told.length - 1;
            if (!told[i].matches(open ? "|[0-3][a-l]{0,9}" : "[0-3][a-l]{1,9}")) {
                return null;
            }
            if (told[i].length() < 2) {
                continue;
            }
            Thread th = new Thread();
            th.kind = told[i].charAt(0) - '0';
            th.at = told[i].charAt(1) - 'a';
            w.threads.add(th);
            for (int k = 2; k < told[i].length(); k++) {
                if (!w.may(i, told[i].charAt(k) - 'a')) {
                    return null;
                }
                w.wind(i, told[i].charAt(k) - 'a');
            }
        }
        return w;
    }

    int fault() {
        for (int i = 1; i <= text.length(); i++) {
            if (begun(text.substring(0, i), false) == null) {
                return i - 1;
            }
        }
        return begun(text.toString(), true) == null ? text.length() : NONE;
    }

    int board() {
        World w = begun(text.toString(), true);
        if (w == null) {
            return STATE;
        }
        world = w;
        row.clear();
        slots[0] = null;
        slots[1] = null;
        return w.threads.size();
    }

    int thread(int t, int what) {
        if (no(t)) {
            return UNKNOWN;
        }
        Thread th = world.threads.get(t);
        int bits = 0;
        for (int n = 0; n < 12; n++) {
            bits += world.may(t, n) ? 1 << n : 0;
        }
        int[] all = {th.at, th.kind, th.wound.size(), length(th.wound), bits, world.mayUnwind(t) ? 1 : 0};
        return what < 0 || what > 5 ? OUTSIDE : all[what];
    }

    int stretch(int s, int what) {
        if (s < 0 || s >= world.lying.size()) {
            return UNKNOWN;
        }
        Piece p = world.lying.get(s);
        int over = 0;
        for (int i = s + 1; i < world.lying.size(); i++) {
            over += cross(p.a, p.b, world.lying.get(i).a, world.lying.get(i).b) ? 1 : 0;
        }
        int[] all = {p.owner, p.a, p.b, world.crossedBy(p), over, world.above(s)};
        return what < 0 || what > 5 ? OUTSIDE : all[what];
    }

    int wind(int t, int nail) {
        if (no(t) || nail < 0 || nail > 11) {
            return UNKNOWN;
        }
        if (!world.may(t, nail)) {
            return STATE;
        }
        act();
        return world.wind(t, nail);
    }

    int unwind(int t) {
        if (no(t)) {
            return UNKNOWN;
        }
        if (!world.mayUnwind(t)) {
            return STATE;
        }
        act();
        return world.unwind(t);
    }

    int cut(int t) {
        if (no(t)) {
            return UNKNOWN;
        }
        if (!world.mayCut(t)) {
            return STATE;
        }
        act();
        return world.cut(t);
    }

    int turn() {
        act();
        world.turn();
        return world.lying.size();
    }

    int behind() {
        act();
        world.behind();
        return world.lying.size();
    }

    int undo() {
        if (row.isEmpty()) {
            return STATE;
        }
        world = row.remove(row.size() - 1);
        return row.size();
    }

    int crossings(int one, int other) {
        return no(one) || no(other) ? UNKNOWN : world.crossings(one, other);
    }

    int parts() {
        return world.parts();
    }

    int strokes() {
        return world.strokes();
    }

    int next(int t, int what) {
        if (no(t)) {
            return UNKNOWN;
        }
        if (what < 0 || what > 1) {
            return OUTSIDE;
        }
        int[] best = null;
        for (int n = 11; n >= 0; n--) {
            if (world.may(t, n)) {
                int crossed = world.copy().wind(t, n);
                if (best == null || crossed >= best[1]) {
                    best = new int[] {n, crossed};
                }
            }
        }
        return best == null ? NONE : best[what];
    }

    int star(int t, int k, int n, int what) {
        if (no(t)) {
            return UNKNOWN;
        }
        if (k < 1 || k > 11 || n < 0 || n > 12 || what < 0 || what > 2) {
            return OUTSIDE;
        }
        World w = world.copy();
        int times = 0;
        while (times < n && w.may(t, (w.threads.get(t).at + k) % 12)) {
            w.wind(t, (w.threads.get(t).at + k) % 12);
            times++;
        }
        int[] all = {times, w.threads.get(t).at, w.crossings() - world.crossings()};
        return all[what];
    }

    int judge(int n, long told) {
        if (n < 1 || n > 4 || told < 0 || Long.toString(told).length() > 4 * n) {
            return OUTSIDE;
        }
        String figures = String.format("%0" + 4 * n + "d", told);
        World w = world.copy();
        for (int i = 0; i < n; i++) {
            if (!isSo(w, figures.substring(4 * i, 4 * i + 4))) {
                return i;
            }
        }
        return NONE;
    }

    private static boolean isSo(World w, String d) {
        int a = d.charAt(1) - '0';
        int b = d.charAt(2) - '0';
        int c = d.charAt(3) - '0';
        if (d.startsWith("1") && w.may(a, 10 * b + c)) {
            w.wind(a, 10 * b + c);
            return true;
        }
        if (d.startsWith("200") && w.mayUnwind(c)) {
            w.unwind(c);
            return true;
        }
        if (d.startsWith("300") && w.mayCut(c)) {
            w.cut(c);
            return true;
        }
        if (d.equals("4000")) {
            w.turn();
            return true;
        }
        if (d.equals("5000")) {
            w.behind();
            return true;
        }
        if (d.startsWith("6")) {
            return a < w.threads.size() && b < w.threads.size() && w.crossings(a, b) >= c;
        }
        return d.startsWith("70") && w.parts() >= 10 * b + c;
    }

    int see(int t, int nail, int was) {
        if (nail < 0 || nail > 11) {
            return UNKNOWN;
        }
        if (t < 0 || t > 12 || was < 0 || was > 1) {
            return OUTSIDE;
        }
        if (seen.size() == 6) {
            return FULL;
        }
        seen.add(new int[] {t, nail, was});
        return seen.size();
    }

    int unsee() {
        int n = seen.size();
        seen.clear();
        return n;
    }

    int stars(int what) {
        if (what < 0 || what > 1) {
            return OUTSIDE;
        }
        List<Integer> fit = new ArrayList<>();
        for (int nail = 0; nail < 12; nail++) {
            for (int k = 1; k < 12; k++) {
                int[] at = new int[13];
                at[0] = nail;
                for (int t = 1; t <= 12; t++) {
                    at[t] = (at[t - 1] + k) % 12;
                }
                boolean so = true;
                for (int[] s : seen) {
                    so &= (at[s[0]] == s[1]) == (s[2] == 1);
                }
                if (so) {
                    fit.add(100 * nail + k);
                }
            }
        }
        return what == 0 ? fit.size() : fit.isEmpty() ? NONE : fit.get(0);
    }

    private static int told(long above, long below, boolean upper) {
        long g = BigInteger.valueOf(above).gcd(BigInteger.valueOf(below)).longValue();
        return (int) ((upper ? above : below) / g);
    }

    int share(int t, boolean upper) {
        if (no(t)) {
            return UNKNOWN;
        }
        long[] sum = new long[2];
        orders(new ArrayList<>(), t, sum);
        return told(sum[0], sum[1], upper);
    }

    private void orders(List<Integer> come, int t, long[] sum) {
        if (come.size() == world.threads.size()) {
            int at = come.indexOf(t);
            sum[0] += among(come.subList(0, at + 1)) - among(come.subList(0, at));
            sum[1]++;
            return;
        }
        for (int i = 0; i < world.threads.size(); i++) {
            if (!come.contains(i)) {
                List<Integer> more = new ArrayList<>(come);
                more.add(i);
                orders(more, t, sum);
            }
        }
    }

    private int among(List<Integer> threads) {
        List<Piece> of = new ArrayList<>();
        for (Piece p : world.lying) {
            if (threads.contains(p.owner)) {
                of.add(p);
            }
        }
        return World.pairs(of);
    }

    int rests(int one, int other, int what) {
        if (no(one) || no(other)) {
            return UNKNOWN;
        }
        if (one == other || what < 0 || what > 1) {
            return OUTSIDE;
        }
        int[][][] has = new int[2][2][];
        for (int a = 0; a < 2; a++) {
            for (int b = 0; b < 2; b++) {
                World w = world.copy();
                if (a == 1 && w.may(one, (w.threads.get(one).at + 5) % 12)) {
                    w.wind(one, (w.threads.get(one).at + 5) % 12);
                }
                if (b == 1 && w.may(other, (w.threads.get(other).at + 5) % 12)) {
                    w.wind(other, (w.threads.get(other).at + 5) % 12);
                }
                has[a][b] = new int[] {worth(w, one), worth(w, other)};
            }
        }
        List<Integer> still = new ArrayList<>();
        for (int a = 0; a < 2; a++) {
            for (int b = 0; b < 2; b++) {
                if (!(has[1 - a][b][0] > has[a][b][0]) && !(has[a][1 - b][1] > has[a][b][1])) {
                    still.add(10 * a + b);
                }
            }
        }
        return what == 0 ? still.size() : still.isEmpty() ? NONE : still.get(0);
    }

    private static int worth(World w, int t) {
        Piece p = w.last(t);
        return p == null ? 0 : 3 * w.crossedBy(p) - longOf(p.a, p.b) / 5;
    }

    int snaps(int v, int x, boolean upper) {
        if (v < 0 || v > 99 || x < 0 || x > 10) {
            return OUTSIDE;
        }
        long all = 0;
        long above = 0;
        for (int set = 0; set < 1 << world.threads.size(); set++) {
            World w = world.copy();
            long weight = 1;
            for (int t = 0; t < world.threads.size(); t++) {
                if ((set >> t & 1) == 1) {
                    w.cut(t);
                    weight *= x;
                } else {
                    weight *= 10 - x;
                }
            }
            all += weight;
            above += w.crossings() >= v ? weight : 0;
        }
        return told(above, all, upper);
    }

    long seed(long v) {
        long was = theSeed;
        theSeed = v;
        return was;
    }

    int years(int m) {
        if (m < 1 || m > 30) {
            return OUTSIDE;
        }
        World w = world.copy();
        int sum = 0;
        for (int i = 0; i < m; i++) {
            BigInteger x = BigInteger.valueOf(theSeed).multiply(new BigInteger("6364136223846793005"))
                .add(new BigInteger("1442695040888963407")).mod(BigInteger.ONE.shiftLeft(64));
            theSeed = x.longValue();
            int r = x.shiftRight(33).mod(BigInteger.valueOf(60)).intValue();
            if (r <= 47) {
                if (w.may(r / 12, r % 12)) {
                    w.wind(r / 12, r % 12);
                }
            } else if (r <= 51) {
                if (w.mayUnwind(r - 48)) {
                    w.unwind(r - 48);
                }
            } else if (r <= 53) {
                if (w.mayCut(r - 52)) {
                    w.cut(r - 52);
                }
            } else if (r <= 56) {
                w.turn();
            } else {
                w.behind();
            }
            sum += w.crossings();
        }
        return sum;
    }

    int keep(int slot) {
        if (slot < 0 || slot > 1) {
            return UNKNOWN;
        }
        slots[slot] = world.copy();
        return world.lying.size();
    }

    int again(int slot) {
        if (slot < 0 || slot > 1) {
            return UNKNOWN;
        }
        if (slots[slot] == null) {
            return STATE;
        }
        world = slots[slot].copy();
        row.clear();
        return world.lying.size();
    }

    int count(int what) {
        int bits = 0;
        for (Piece p : world.lying) {
            bits |= 1 << p.a | 1 << p.b;
        }
        int[] all = {text.length(), world.threads.size(), world.lying.size(), world.crossings(), bits,
            length(world.lying), row.size(), seen.size()};
        return what < 0 || what > 7 ? OUTSIDE : all[what];
    }
}
