import java.util.ArrayList;
import java.util.List;

/**
 * The document word by word, as slow as it likes: outcomes are told one by one, waits quarter by quarter, rooms row by
 * row. It shares no way of reckoning with the class, so the two agree only where both say what the document says.
 */
final class Model {
    static final class Case {
        int court, length, fold, fate = -1;
        boolean[] need = new boolean[10];
        int[] call = new int[10];
        // as the day goes
        boolean began, gone;
        int at, takes;
    }

    static final class Witness {
        int kind, way;
    }

    final List<List<Integer>> lists = List.of(new ArrayList<>(), new ArrayList<>(), new ArrayList<>());
    final List<Case> cases = new ArrayList<>();
    final List<Witness> people = new ArrayList<>();
    final boolean[][] apart = new boolean[10][10];
    final List<int[]> notices = new ArrayList<>();
    final byte[][] sheets = new byte[2][];
    final int[] rules = {1, 4, 0, 0, 0};
    final long[][] idle = new long[3][2];

    private boolean noCase(int c) {
        return c < 0 || c >= cases.size();
    }

    private boolean noWitness(int w) {
        return w < 0 || w >= people.size();
    }

    private static boolean out(int v, int least, int most) {
        return v < least || v > most;
    }

    long newCase(int court, int length, int fold) {
        if (out(court, 0, 2) || out(length, 1, 8) || out(fold, 0, 100)) return Due.BAD;
        if (cases.size() == 12 || lists.get(court).size() == 6) return Due.FULL;
        Case c = new Case();
        c.court = court;
        c.length = length;
        c.fold = fold;
        cases.add(c);
        lists.get(court).add(cases.size() - 1);
        return cases.size() - 1;
    }

    long witness(int kind, int way) {
        if (out(kind, 0, 4) || out(way, 0, 12)) return Due.BAD;
        if (people.size() == 10) return Due.FULL;
        Witness w = new Witness();
        w.kind = kind;
        w.way = way;
        people.add(w);
        return people.size() - 1;
    }

    long isOf(int w, int kind) {
        if (noWitness(w) || out(kind, 0, 4)) return Due.BAD;
        int own = people.get(w).kind;
        if (kind == 0) return 1;
        if (kind == 3) return own == 3 || own == 4 ? 1 : 0;
        return own == kind ? 1 : 0;
    }

    long needs(int c, int set) {
        if (noCase(c)) return Due.BAD;
        for (int bit = 0; bit < 32; bit++) {
            if ((set >>> bit) % 2 != 0 && bit >= people.size()) return Due.BAD;
        }
        Case a = cases.get(c);
        long was = told(c, 4);
        for (int w = 0; w < people.size(); w++) {
            boolean now = (set >>> w) % 2 != 0;
            if (now && !a.need[w]) a.call[w] = people.get(w).way;
            a.need[w] = now;
        }
        return was;
    }

    long fold(int c, int v) {
        if (noCase(c) || out(v, 0, 100)) return Due.BAD;
        long was = cases.get(c).fold;
        cases.get(c).fold = v;
        return was;
    }

    long told(int c, int what) {
        if (noCase(c) || out(what, 0, 5)) return Due.BAD;
        Case a = cases.get(c);
        if (what == 0) return a.court;
        if (what == 1) return lists.get(a.court).indexOf(c);
        if (what == 2) return a.length;
        if (what == 3) return a.fold;
        if (what == 5) return a.fate < 0 ? Due.NONE : a.fate;
        long bits = 0;
        for (int w = 9; w >= 0; w--) bits = bits * 2 + (a.need[w] ? 1 : 0);
        return bits;
    }

    long inList(int court, int place) {
        if (out(court, 0, 2) || place < 0) return Due.BAD;
        return place < lists.get(court).size() ? lists.get(court).get(place) : Due.NONE;
    }

    long rule(int which, int v) {
        if (out(which, 0, 4)) return Due.BAD;
        if (which == 0 && out(v, 1, 20)) return Due.BAD;
        if (which == 1 && out(v, 0, 200)) return Due.BAD;
        if (which > 1 && out(v, 0, 100)) return Due.BAD;
        long was = rules[which];
        rules[which] = v;
        return was;
    }

    long weight(int c, int quarter) {
        if (noCase(c) || out(quarter, 0, 48)) return Due.BAD;
        List<Integer> list = lists.get(cases.get(c).court);
        int k = list.indexOf(c);
        long sum = 0;
        for (int outcome = 0; outcome < 1 << k; outcome++) {
            long chance = 1;
            int t = 0;
            for (int i = 0; i < k; i++) {
                Case ahead = cases.get(list.get(i));
                if ((outcome >> i & 1) == 1) {
                    chance *= ahead.fold;
                } else {
                    chance *= 100 - ahead.fold;
                    t += ahead.length;
                }
            }
            if (t == quarter) sum += chance;
        }
        return sum;
    }

    long cost(int c, int quarter) {
        if (noCase(c) || out(quarter, 0, 48)) return Due.BAD;
        long n = 0;
        for (int w = 0; w < people.size(); w++) {
            if (cases.get(c).need[w]) n += isOf(w, 3) == 1 ? 3 : isOf(w, 1) == 1 ? 2 : 1;
        }
        long sum = 0;
        for (int t = 0; t <= 40; t++) {
            if (t > quarter) sum += weight(c, t) * ((t - quarter) * rules[0] * n);
            if (t < quarter) sum += weight(c, t) * ((quarter - t) * rules[1]);
        }
        return sum;
    }

    long best(int c) {
        if (noCase(c)) return Due.BAD;
        int from = 0;
        for (int w = 0; w < people.size(); w++) {
            if (cases.get(c).need[w] && people.get(w).way > from) from = people.get(w).way;
        }
        long least = Long.MAX_VALUE;
        for (int q = from; q <= 48; q++) least = Math.min(least, cost(c, q));
        for (int q = from; q <= 48; q++) {
            if (cost(c, q) == least) return q;
        }
        return Long.MIN_VALUE;
    }

    long call(int w, int c, int quarter) {
        if (noWitness(w) || noCase(c) || out(quarter, 0, 48)) return Due.BAD;
        if (!cases.get(c).need[w] || quarter < people.get(w).way) return Due.NO;
        long was = cases.get(c).call[w];
        cases.get(c).call[w] = quarter;
        return was;
    }

    long called(int w, int c) {
        if (noWitness(w) || noCase(c)) return Due.BAD;
        return cases.get(c).need[w] ? cases.get(c).call[w] : Due.NO;
    }

    long plan(int c) {
        if (noCase(c)) return Due.BAD;
        long quarter = best(c);
        for (int w = 0; w < people.size(); w++) {
            if (cases.get(c).need[w]) cases.get(c).call[w] = (int) quarter;
        }
        return quarter;
    }

    long fate(int c, int v) {
        if (noCase(c) || out(v, -1, 20)) return Due.BAD;
        long was = cases.get(c).fate;
        cases.get(c).fate = v;
        return was;
    }

    private boolean isInACase(int w, int t) {
        for (Case c : cases) {
            if (c.began && c.need[w] && c.at <= t && t < c.at + c.takes) return true;
        }
        return false;
    }

    private void day() {
        for (Case c : cases) {
            c.began = false;
            c.gone = false;
            c.takes = c.fate > 0 ? c.fate : c.length;
        }
        for (long[] row : idle) {
            row[0] = 0;
            row[1] = 0;
        }
        for (int t = 0; t < 200; t++) {
            for (int court = 0; court < 3; court++) quarter(court, t);
        }
    }

    private void quarter(int court, int t) {
        for (int number : lists.get(court)) {
            Case c = cases.get(number);
            if (c.gone) continue;
            if (c.began) {
                if (t < c.at + c.takes) return;
                continue;
            }
            if (c.fate == 0) {
                c.gone = true;
                c.at = t;
                continue;
            }
            boolean there = true;
            boolean free = true;
            for (int w = 0; w < people.size(); w++) {
                if (c.need[w] && c.call[w] > t) there = false;
                if (c.need[w] && isInACase(w, t)) free = false;
            }
            if (there && free) {
                c.began = true;
                c.at = t;
            } else {
                idle[court][there ? 1 : 0]++;
            }
            return;
        }
    }

    long begins(int number, int what) {
        if (noCase(number) || out(what, 0, 2)) return Due.BAD;
        day();
        Case c = cases.get(number);
        if (!c.began && !c.gone) return Due.NONE;
        if (what == 0) return c.at;
        if (what == 1) return c.gone ? c.at : c.at + c.takes;
        return c.gone ? 1 : 0;
    }

    long waited(int w, int number) {
        if (noWitness(w) || noCase(number)) return Due.BAD;
        Case c = cases.get(number);
        if (!c.need[w]) return Due.NO;
        day();
        int to = c.began || c.gone ? c.at : 200;
        long sum = 0;
        for (int t = c.call[w]; t < to; t++) {
            if (!isInACase(w, t)) sum++;
        }
        return sum;
    }

    long idle(int court, int cause) {
        if (out(court, 0, 2) || out(cause, 0, 1)) return Due.BAD;
        day();
        return idle[court][cause];
    }

    private long allWaits(int w) {
        long sum = 0;
        for (int c = 0; c < cases.size(); c++) {
            if (cases.get(c).need[w]) sum += waited(w, c);
        }
        return sum;
    }

    long waits() {
        long sum = 0;
        for (int w = 0; w < people.size(); w++) sum += allWaits(w);
        return sum;
    }

    private boolean isCalled(int w) {
        for (Case c : cases) {
            if (c.need[w]) return true;
        }
        return false;
    }

    long pay(int w) {
        if (noWitness(w)) return Due.BAD;
        if (!isCalled(w)) return 0;
        long lost = allWaits(w) / 4 * rules[2];
        long journey = 2 * people.get(w).way * rules[3];
        long fees = 0;
        day();
        for (Case c : cases) {
            if (c.began && c.need[w]) fees += rules[4];
        }
        switch (people.get(w).kind) {
            case 0: return lost + journey;
            case 1: return 0;
            case 2: return lost + journey + fees;
            default: return journey;
        }
    }

    long apart(int w, int o, int on) {
        if (noWitness(w) || noWitness(o) || w == o || out(on, 0, 1)) return Due.BAD;
        long was = apart[w][o] ? 1 : 0;
        apart[w][o] = on == 1;
        apart[o][w] = on == 1;
        return was;
    }

    private boolean[] stay(int w) {
        boolean[] in = new boolean[201];
        int first = 999;
        int last = -1;
        for (Case c : cases) {
            if (!c.need[w]) continue;
            first = Math.min(first, c.call[w]);
            last = Math.max(last, c.began || c.gone ? c.at : 200);
        }
        if (last < first) last = first;
        for (int t = first; t <= last && t <= 200; t++) in[t] = true;
        return in;
    }

    private boolean mayShare(int w, int o) {
        if (!apart[w][o]) return true;
        boolean[] a = stay(w);
        boolean[] b = stay(o);
        for (int t = 0; t <= 200; t++) {
            if (a[t] && b[t]) return false;
        }
        return true;
    }

    /** All rows of rooms for those who are called, in the order of the rows, until one is right. */
    long room(int witness) {
        if (noWitness(witness)) return Due.BAD;
        day();
        List<Integer> in = new ArrayList<>();
        for (int w = 0; w < people.size(); w++) {
            if (isCalled(w)) in.add(w);
        }
        int n = in.size();
        boolean[][] share = new boolean[n][n];
        for (int i = 0; i < n; i++) {
            for (int j = 0; j < n; j++) share[i][j] = i == j || mayShare(in.get(i), in.get(j));
        }
        int[] row = new int[n];
        while (true) {
            if (isRight(row, in, share)) {
                int i = in.indexOf(witness);
                return i < 0 ? Due.NONE : row[i];
            }
            int i = n - 1;
            while (i >= 0 && row[i] == 2) row[i--] = 0;
            if (i < 0) return Due.NO;
            row[i]++;
        }
    }

    private boolean isRight(int[] row, List<Integer> in, boolean[][] share) {
        for (int i = 0; i < row.length; i++) {
            if (people.get(in.get(i)).kind == 4 && row[i] != 2) return false;
            for (int j = 0; j < i; j++) {
                if (row[i] == row[j] && !share[i][j]) return false;
            }
        }
        return true;
    }

    long move(int c, int court) {
        if (noCase(c) || out(court, 0, 2)) return Due.BAD;
        int others = 0;
        for (int o : lists.get(court)) {
            if (o != c) others++;
        }
        if (others == 6) return Due.FULL;
        Case a = cases.get(c);
        lists.get(a.court).remove(Integer.valueOf(c));
        lists.get(court).add(c);
        a.court = court;
        for (int w = 0; w < people.size(); w++) {
            boolean waiting = false;
            for (int[] n : notices) {
                if (n[0] == w && n[1] == c && n[2] == 0) waiting = true;
            }
            if (a.need[w] && !waiting && notices.size() < 60) notices.add(new int[] {w, c, 0});
        }
        return lists.get(court).size() - 1;
    }

    long notice(int i, int what) {
        if (i < 0 || i >= notices.size() || out(what, 0, 2)) return Due.BAD;
        return notices.get(i)[what];
    }

    long read(int w) {
        if (noWitness(w)) return Due.BAD;
        long many = 0;
        for (int[] n : notices) {
            if (n[0] == w) {
                many += 1 - n[2];
                n[2] = 1;
            }
        }
        return many;
    }

    long sheet(int s, int n) {
        if (out(s, 0, 1) || n > 12) return Due.BAD;
        if (n < 0) return Due.SIZE;
        sheets[s] = new byte[n];
        return n;
    }

    long mark(int s, int place, int v) {
        if (out(s, 0, 1)) return Due.BAD;
        if (sheets[s] == null) return Due.NOTHING;
        if (out(place, 0, sheets[s].length - 1)) return Due.INDEX;
        long was = sheets[s][place];
        sheets[s][place] = (byte) v;
        return was;
    }

    long copy(int from, int place, int to, int at, int many) {
        if (out(from, 0, 1) || out(to, 0, 1)) return Due.BAD;
        if (sheets[from] == null || sheets[to] == null) return Due.NOTHING;
        byte[] read = sheets[from].clone();
        try {
            System.arraycopy(read, place, sheets[to], at, many);
        } catch (IndexOutOfBoundsException e) {
            return Due.INDEX;
        }
        return many;
    }

    long take(int s) {
        if (out(s, 0, 1)) return Due.BAD;
        if (sheets[s] == null) return Due.NOTHING;
        int many = Math.min(sheets[s].length, cases.size());
        for (int i = 0; i < many; i++) {
            if (out(sheets[s][i], 0, 100)) return Due.NO;
        }
        for (int i = 0; i < many; i++) cases.get(i).fold = sheets[s][i];
        return many;
    }

    long count(int what) {
        long many = 0;
        switch (what) {
            case 0: return cases.size();
            case 1: return people.size();
            case 2: return notices.size();
            case 3:
                for (int[] n : notices) many += 1 - n[2];
                return many;
            case 4:
                for (int a = 0; a < 10; a++) {
                    for (int b = 0; b < a; b++) many += apart[a][b] ? 1 : 0;
                }
                return many;
            case 5:
                for (Case c : cases) many += c.fate >= 0 ? 1 : 0;
                return many;
            case 6:
                return (sheets[0] == null ? 0 : 1) + (sheets[1] == null ? 0 : 1);
            default:
                return Due.BAD;
        }
    }
}
