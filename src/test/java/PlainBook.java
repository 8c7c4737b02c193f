import java.math.BigInteger;
import java.util.ArrayList;
import java.util.HashSet;
import java.util.List;
import java.util.Map;
import java.util.Set;
import java.util.TreeMap;

/** The document written down a second time, by other means: what ModelTest holds BathBook against. */
final class PlainBook {
    private static final int BAD = -1, FULL = -2, FINDING = -3, STATE = -4, NONE = -9;

    private record Ratio(BigInteger top, BigInteger bottom) {
        static Ratio of(long top, long bottom) {
            return of(BigInteger.valueOf(top), BigInteger.valueOf(bottom));
        }

        static Ratio of(BigInteger top, BigInteger bottom) {
            BigInteger divisor = top.gcd(bottom).multiply(BigInteger.valueOf(bottom.signum()));
            return new Ratio(top.divide(divisor), bottom.divide(divisor));
        }

        Ratio plus(Ratio o) {
            return of(top.multiply(o.bottom).add(o.top.multiply(bottom)), bottom.multiply(o.bottom));
        }

        Ratio times(Ratio o) {
            return of(top.multiply(o.top), bottom.multiply(o.bottom));
        }

        Ratio less(Ratio o) {
            return plus(o.times(of(-1, 1)));
        }

        Ratio abs() {
            return new Ratio(top.abs(), bottom);
        }

        boolean isAbove(Ratio o) {
            return less(o).top.signum() > 0;
        }
    }

    private record Bulb(int kind, int tolerance) {
    }

    private static final class Paper {
        int number, bulb, by, bath, day, offset, end;
        boolean isVoid;
        Paper rest;
    }

    private final List<List<Integer>> rows = new ArrayList<>();
    private final List<TreeMap<Integer, Integer>> tables = new ArrayList<>();
    private final List<Bulb> bulbs = new ArrayList<>();
    private final List<Paper> papers = new ArrayList<>();
    private final Map<Integer, int[]> labs = new TreeMap<>();
    private final int[] findings = new int[6];
    private int finding = 0;
    private long asked = 0;
    private Ratio told = Ratio.of(0, 1);

    PlainBook() {
        for (int r = 0; r < 6; r++) {
            rows.add(null);
        }
        for (int t = 0; t < 4; t++) {
            tables.add(new TreeMap<>());
        }
    }

    private int find(int which) {
        finding = which;
        findings[which]++;
        return FINDING;
    }

    private static boolean in(long v, long least, long most) {
        return least <= v && v <= most;
    }

    int row(int r, int n) {
        if (!in(r, 0, 5) || n > 40) return BAD;
        if (n < 0) return find(5);
        List<Integer> row = new ArrayList<>();
        for (int i = 0; i < n; i++) row.add(0);
        rows.set(r, row);
        return n;
    }

    int lay(int r, int i, int v) {
        if (!in(r, 0, 5) || !in(v, -100000, 100000)) return BAD;
        List<Integer> row = rows.get(r);
        if (row == null) return find(1);
        if (!in(i, 0, row.size() - 1)) return find(2);
        asked = row.set(i, v);
        return 1;
    }

    int tear(int r) {
        if (!in(r, 0, 5)) return BAD;
        if (rows.get(r) == null) return find(1);
        rows.set(r, null);
        return 1;
    }

    int copy(int r, int i, int to, int j, int n) {
        if (!in(r, 0, 5) || !in(to, 0, 5)) return BAD;
        if (n < 0) return find(5);
        if (rows.get(r) == null || rows.get(to) == null) return find(1);
        if (i < 0 || (long) i + n > rows.get(r).size() || j < 0 || (long) j + n > rows.get(to).size()) return find(2);
        List<Integer> taken = new ArrayList<>(rows.get(r).subList(i, i + n));
        for (int k = 0; k < n; k++) rows.get(to).set(j + k, taken.get(k));
        return 1;
    }

    int mean(int r) {
        if (!in(r, 0, 5)) return BAD;
        if (rows.get(r) == null) return find(1);
        long[] held = rows.get(r).stream().filter(v -> v != NONE).mapToLong(v -> v).toArray();
        if (held.length == 0) return find(4);
        long sum = 0;
        for (long v : held) sum += v;
        asked = sum / held.length;
        return 1;
    }

    int plateau(int r, int w, int m) {
        if (!in(r, 0, 5) || !in(w, 0, 100000) || !in(m, 1, 40)) return BAD;
        List<Integer> row = rows.get(r);
        if (row == null) return find(1);
        for (int length = row.size(); length >= m; length--) {
            for (int from = 0; from + length <= row.size(); from++) {
                List<Integer> run = row.subList(from, from + length);
                int most = run.stream().mapToInt(v -> v).max().orElse(0);
                int least = run.stream().mapToInt(v -> v).min().orElse(0);
                if (!run.contains(NONE) && most - least <= w) {
                    told = Ratio.of(run.stream().mapToLong(v -> v).sum(), length);
                    asked = length;
                    return from;
                }
            }
        }
        return NONE;
    }

    int point(int table, int x, int y) {
        if (!in(table, 0, 3) || !in(x, -20, 20) || !in(y, -10000, 10000)) return BAD;
        if (tables.get(table).containsKey(x)) return BAD;
        if (tables.get(table).size() == 4) return FULL;
        tables.get(table).put(x, y);
        return tables.get(table).size();
    }

    int clear(int table) {
        if (!in(table, 0, 3)) return BAD;
        int had = tables.get(table).size();
        tables.get(table).clear();
        return had;
    }

    /** By Neville's steps. */
    private Ratio worth(int table, int x) {
        List<Integer> xs = new ArrayList<>(tables.get(table).keySet());
        Ratio[] p = new Ratio[xs.size()];
        for (int i = 0; i < p.length; i++) p[i] = Ratio.of(tables.get(table).get(xs.get(i)), 1);
        for (int step = 1; step < p.length; step++) {
            for (int i = 0; i + step < p.length; i++) {
                int a = xs.get(i);
                int b = xs.get(i + step);
                p[i] = p[i].times(Ratio.of(x - b, a - b)).plus(p[i + 1].times(Ratio.of(a - x, a - b)));
            }
        }
        return p[0];
    }

    int curve(int table, int x) {
        if (!in(table, 0, 3) || !in(x, -20, 20)) return BAD;
        if (tables.get(table).isEmpty()) return STATE;
        told = worth(table, x);
        return 1;
    }

    int apart(int table, int other, int a, int b) {
        if (!in(table, 0, 3) || !in(other, 0, 3) || !in(a, -20, 20) || !in(b, -20, 20) || a > b) return BAD;
        if (tables.get(table).isEmpty() || tables.get(other).isEmpty()) return STATE;
        Ratio best = null;
        int at = 0;
        for (int x = a; x <= b; x++) {
            Ratio gap = worth(table, x).less(worth(other, x)).abs();
            if (best == null || gap.isAbove(best)) {
                best = gap;
                at = x;
            }
        }
        told = best;
        return at + 100;
    }

    int bulb(int kind, int tolerance) {
        if (!in(kind, 0, 3) || !in(tolerance, 0, 10000)) return BAD;
        if (bulbs.size() == 16) return FULL;
        bulbs.add(new Bulb(kind, tolerance));
        return bulbs.size() - 1;
    }

    private boolean noBulb(int bulb) {
        return !in(bulb, 0, bulbs.size() - 1);
    }

    private List<Paper> standing(int bulb) {
        List<Paper> found = new ArrayList<>();
        for (Paper p : papers) if (p.bulb == bulb && !p.isVoid) found.add(p);
        return found;
    }

    int told(int bulb, int what) {
        if (noBulb(bulb) || !in(what, 0, 4)) return BAD;
        int all = (int) papers.stream().filter(p -> p.bulb == bulb).count();
        List<Paper> standing = standing(bulb);
        int latest = standing.isEmpty() ? NONE : standing.get(standing.size() - 1).number;
        return new int[] {bulbs.get(bulb).kind, bulbs.get(bulb).tolerance, all, all - standing.size(), latest}[what];
    }

    private boolean isKind(int bulb, int kind) {
        int own = bulbs.get(bulb).kind;
        return kind == 2 ? own == 2 || own == 3 : own == kind;
    }

    int mark(int bulb, int kind) {
        if (noBulb(bulb) || !in(kind, 1, 3)) return BAD;
        if (!isKind(bulb, kind)) return find(3);
        if (kind == 1) return bulbs.get(bulb).tolerance;
        if (kind == 2) return (int) papers.stream().filter(p -> p.by == bulb && !p.isVoid).count();
        Set<Paper> over = new HashSet<>();
        for (Paper p : papers) {
            if (p.rest != null && (p.rest.bulb == bulb || over.contains(p.rest))) over.add(p);
        }
        return (int) over.stream().filter(p -> !p.isVoid).count();
    }

    int stem(int bulb, int reading, int n, int t, int s) {
        if (noBulb(bulb) || !in(reading, -100000, 100000) || !in(n, 0, 1000)) return BAD;
        if (!in(t, -100000, 100000) || !in(s, -100000, 100000)) return BAD;
        if (!isKind(bulb, 1)) return find(3);
        told = Ratio.of(reading, 1).plus(Ratio.of(n, 1).times(Ratio.of(t - s, 1)).times(Ratio.of(16, 100000)));
        return 1;
    }

    int currents(int bulb, int a, int i, int b, int j) {
        if (noBulb(bulb) || !in(a, -100000, 100000) || !in(b, -100000, 100000)) return BAD;
        if (!in(i, 1, 100) || !in(j, 1, 100)) return BAD;
        if (!isKind(bulb, 2)) return find(3);
        if (i == j) return find(4);
        told = Ratio.of((long) a * j * j - (long) b * i * i, (long) j * j - (long) i * i);
        return 1;
    }

    int compare(int r, int i) {
        if (!in(r, 0, 5)) return BAD;
        List<Integer> row = rows.get(r);
        if (row == null) return find(1);
        int k = (row.size() - 2) / 2;
        if (k < 1 || row.size() != 2 * k + 2 || row.contains(NONE)) return find(5);
        if (!in(i, 0, k - 1)) return NONE;
        int own = row.get(1 + i) + row.get(2 * k - i);
        told = Ratio.of(own - row.get(0) - row.get(2 * k + 1), 2);
        return 1;
    }

    int certify(int bulb, int by, int bath, int day, int offset, int end) {
        if (noBulb(bulb) || by != NONE && noBulb(by) || by == bulb || !in(bath, 0, 7)) return BAD;
        if (!in(day, 0, 100000) || !in(offset, -10000, 10000) || !in(end, 0, 10000)) return BAD;
        if (papers.size() == 40) return FULL;
        Paper p = new Paper();
        for (Paper under : standing(by)) if (under.day <= day) p.rest = under;
        if (by != NONE && p.rest == null) return STATE;
        p.number = papers.size();
        p.bulb = bulb;
        p.by = by;
        p.bath = bath;
        p.day = day;
        p.offset = offset;
        p.end = end;
        papers.add(p);
        return p.number;
    }

    private boolean noPaper(int c) {
        return !in(c, 0, papers.size() - 1);
    }

    int certificate(int c, int what) {
        if (noPaper(c) || !in(what, 0, 6)) return BAD;
        Paper p = papers.get(c);
        int rest = p.rest == null ? NONE : p.rest.number;
        return new int[] {p.bulb, p.by, p.bath, p.day, p.end, p.isVoid ? 1 : 0, rest}[what];
    }

    int offset(int c) {
        if (noPaper(c)) return BAD;
        asked = papers.get(c).offset;
        return 1;
    }

    int wrong(int bath, int a, int b) {
        if (!in(bath, 0, 7) || !in(a, 0, 100000) || !in(b, 0, 100000) || a > b) return BAD;
        int before = count(4);
        for (Paper p : papers) if (p.bath == bath && in(p.day, a, b)) p.isVoid = true;
        for (int again = 0; again < 40; again++) {
            for (Paper p : papers) if (p.rest != null && p.rest.isVoid) p.isVoid = true;
        }
        return count(4) - before;
    }

    int passes(int bulb) {
        if (noBulb(bulb)) return BAD;
        List<Paper> standing = standing(bulb);
        if (standing.isEmpty()) return STATE;
        Paper p = standing.get(standing.size() - 1);
        return Math.abs(p.offset) + p.end > bulbs.get(bulb).tolerance ? 0 : 1;
    }

    int whole(int c) {
        if (noPaper(c)) return BAD;
        int length = 0;
        asked = 0;
        for (Paper p = papers.get(c); p != null; p = p.rest) {
            length++;
            asked += (long) p.end * p.end;
        }
        return length;
    }

    private int driftOf(int bulb, Ratio[] answer) {
        if (noBulb(bulb)) return BAD;
        List<Paper> standing = standing(bulb);
        int n = standing.size();
        if (n < 2) return STATE;
        Paper last = standing.get(n - 1);
        Paper first = standing.get(n - 2);
        if (last.day == first.day) return find(4);
        answer[0] = Ratio.of(last.offset - first.offset, last.day - first.day);
        return 1;
    }

    int drift(int bulb) {
        Ratio[] drift = new Ratio[1];
        int answer = driftOf(bulb, drift);
        if (answer == 1) told = drift[0];
        return answer;
    }

    int due(int bulb) {
        Ratio[] drift = new Ratio[1];
        int answer = driftOf(bulb, drift);
        if (answer != 1) return answer;
        Paper last = papers.get(told(bulb, 4));
        long top = drift[0].top.longValueExact();
        long bottom = drift[0].bottom.longValueExact();
        for (long day = last.day; day <= 100000; day++) {
            long reach = Math.abs(last.offset * bottom + top * (day - last.day)) + last.end * bottom;
            if (reach > bulbs.get(bulb).tolerance * bottom) return (int) day;
        }
        return 100001;
    }

    int resting(int c) {
        if (noPaper(c)) return BAD;
        Set<Paper> over = new HashSet<>();
        over.add(papers.get(c));
        for (Paper p : papers) if (over.contains(p.rest)) over.add(p);
        return over.size() - 1;
    }

    int lab(int a, int b, int v, int end) {
        if (!in(a, 0, 5) || !in(b, 0, 5) || a == b || !in(v, -10000, 10000) || !in(end, 0, 10000)) return BAD;
        labs.put(10 * Math.min(a, b) + Math.max(a, b), new int[] {a < b ? v : -v, end});
        return 1;
    }

    /** The sum round a ring and its room, or null. */
    private int[] ring(int a, int b, int c) {
        int[][] sides = {{a, b}, {b, c}, {c, a}};
        int[] sum = new int[2];
        for (int[] side : sides) {
            int[] known = labs.get(10 * Math.min(side[0], side[1]) + Math.max(side[0], side[1]));
            if (known == null) return null;
            sum[0] += side[0] < side[1] ? known[0] : -known[0];
            sum[1] += known[1];
        }
        return sum;
    }

    int closes(int a, int b, int c) {
        if (!in(a, 0, 5) || !in(b, 0, 5) || !in(c, 0, 5) || a == b || a == c || b == c) return BAD;
        int[] ring = ring(a, b, c);
        if (ring == null) return STATE;
        asked = ring[0];
        return Math.abs(ring[0]) <= ring[1] ? 1 : 0;
    }

    int open() {
        int open = 0;
        for (int set = 0; set < 64; set++) {
            if (Integer.bitCount(set) != 3) continue;
            int a = Integer.numberOfTrailingZeros(set);
            int c = 31 - Integer.numberOfLeadingZeros(set);
            int b = Integer.numberOfTrailingZeros(set ^ 1 << a);
            int[] ring = ring(a, b, c);
            if (ring != null && Math.abs(ring[0]) > ring[1]) open++;
        }
        return open;
    }

    long asked() {
        return asked;
    }

    long upper() {
        return told.top.longValueExact();
    }

    long lower() {
        return told.bottom.longValueExact();
    }

    int count(int what) {
        switch (what) {
            case 0: return (int) rows.stream().filter(r -> r != null).count();
            case 1: return tables.stream().mapToInt(t -> t.size()).sum();
            case 2: return bulbs.size();
            case 3: return papers.size();
            case 4: return (int) papers.stream().filter(p -> p.isVoid).count();
            default: return BAD;
        }
    }

    int finding() {
        return finding;
    }

    int findings(int f) {
        return in(f, 1, 5) ? findings[f] : BAD;
    }

    long digest() {
        List<Integer> all = new ArrayList<>();
        for (int what = 0; what < 5; what++) all.add(count(what));
        for (int b = 0; b < bulbs.size(); b++) for (int what = 0; what < 5; what++) all.add(told(b, what));
        for (Paper p : papers) {
            for (int what = 0; what < 7; what++) all.add(certificate(p.number, what));
            all.add(p.offset);
        }
        for (List<Integer> row : rows) {
            all.add(row == null ? -1 : row.size());
            if (row != null) all.addAll(row);
        }
        long h = 17;
        for (int v : all) h = 31 * h + v;
        return h;
    }
}
