import java.util.ArrayList;
import java.util.List;
import java.util.Map;
import java.util.Random;
import java.util.TreeMap;

/**
 * Random runs of 512 steps, with fixed seeds, and a look at all that there is behind them (the document promises 512
 * calls; this class answers the later ones likewise), against a plain model of the document that reckons ANEW from
 * nothing each time it is asked. The model shares no code with SongOffice, only the reading of the document.
 */
public final class RandomRuns {
    private static final int NONE = -1;
    private static final long COIN = 1_000_000L;
    private static final int RUNS = 1500;
    private static final int CALLS = 512;

    record Set(int day, int[] hands, int[] parts) { }

    record Bargain(int kind, int hand, int works, int day, int x, int y, int z, int taker) { }

    record Sent(int term, int hand, int coins) { }

    record Line(int work, int hand, int from, long began, long[] ended) { }

    static final class Report {
        final int a;
        final int b;
        final int c;
        final boolean days;

        Report(int a, int b, int c, boolean days) {
            this.a = a;
            this.b = days ? b : 0;
            this.c = days ? c : 0;
            this.days = days;
        }
    }

    /** One TERM's row: REPORTS by WORK, in the order in which they were told first. */
    static final class Row {
        final List<Integer> order = new ArrayList<>();
        final Map<Integer, Report> reports = new TreeMap<>();
        final java.util.Set<Integer> open = new java.util.TreeSet<>();
        int torn = 12;

        void put(int work, Report r) {
            if (!reports.containsKey(work)) {
                order.add(work);
            }
            reports.put(work, r);
        }
    }

    /** What the reckoning of TERMS comes to. */
    static final class Books {
        final long[] purse = new long[12];
        final long[] debt = new long[12];
        final long[] filled = new long[12];
        final List<long[]> dues = new ArrayList<>();
        final Map<Integer, Long> kept = new TreeMap<>();
        final Map<Integer, Long> came = new TreeMap<>();
        final Map<Integer, Map<Integer, Long>> bags = new TreeMap<>();
        final List<Line> lines = new ArrayList<>();
        long cameIn;

        long bag(int term, int n) {
            return bags.getOrDefault(term, Map.of()).getOrDefault(n, 0L);
        }

        void setBag(int term, int n, long mites) {
            bags.computeIfAbsent(term, t -> new TreeMap<>()).put(n, mites);
        }

        long duesOf(int h) {
            return dues.stream().mapToLong(d -> d[h]).sum();
        }

        long worth(int h) {
            return duesOf(h) * COIN + purse[h] - debt[h];
        }
    }

    static final class Model {
        final List<List<Set>> shares = new ArrayList<>();
        final List<Bargain> bargains = new ArrayList<>();
        final List<Row> rows = new ArrayList<>();
        final List<Sent> sents = new ArrayList<>();
        Books books = new Books();
        int now = 0;
        int settled = 0;

        Model() {
            for (int w = 0; w < 12; w++) {
                shares.add(new ArrayList<>());
            }
            for (int t = 0; t < 40; t++) {
                rows.add(new Row());
            }
        }

        static boolean in(int v, int low, int high) {
            return low <= v && v <= high;
        }

        int share(int w, int day, int[] h, int[] p) {
            if (!in(w, 0, 11) || !in(day, 90 * now, 3599) || shares.get(w).size() == 6) {
                return NONE;
            }
            List<Set> sets = shares.get(w);
            if (!sets.isEmpty() && sets.get(sets.size() - 1).day() >= day) {
                return NONE;
            }
            long together = 0;
            for (int i = 0; i < 3; i++) {
                boolean none = i > 0 && h[i] == NONE;
                if (none ? p[i] != 0 : !in(h[i], 0, 11) || !in(p[i], 1, 1000)) {
                    return NONE;
                }
                for (int j = 0; j < i; j++) {
                    if (!none && (h[i] == h[j] || h[j] == NONE)) {
                        return NONE;
                    }
                }
                together += p[i];
            }
            if (together != 1000) {
                return NONE;
            }
            sets.add(new Set(day, h.clone(), p.clone()));
            return sets.size();
        }

        int bargain(Bargain b) {
            boolean part = b.kind == 0 || b.kind == 3 || b.kind == 4;
            boolean fits = in(b.kind, 0, 4) && in(b.hand, 0, 11) && in(b.works, 1, 4095) && in(b.day, 90 * now, 3599)
                && bargains.size() < 24 && in(b.x, 1, part ? 1000 : 1_000_000);
            if (b.kind == 3) {
                fits = fits && in(b.y, 1, 1_000_000) && in(b.z, 0, 1000);
            }
            if (b.kind == 4) {
                fits = fits && in(b.y, 1, 8);
            }
            if (b.kind == 0 || b.kind == 3) {
                fits = fits && in(b.taker, 0, 11) && b.taker != b.hand;
            }
            if (!fits) {
                return NONE;
            }
            bargains.add(b);
            return bargains.size() - 1;
        }

        boolean fits(int w, int a, int b, int c, boolean days) {
            return in(w, 0, 11) && !shares.get(w).isEmpty() && in(a, 0, 1_000_000)
                && (!days || in(b, 0, 1_000_000) && in(c, 0, 1_000_000));
        }

        boolean report(int w, int a, int b, int c, boolean days) {
            if (now == 40 || !fits(w, a, b, c, days)) {
                return false;
            }
            rows.get(now).put(w, new Report(a, b, c, days));
            return true;
        }

        boolean tear(int n) {
            if (now == 40 || !in(n, -1, 12)) {
                return false;
            }
            Row row = rows.get(now);
            row.torn = n == NONE ? 0 : n;
            row.open.clear();
            for (int w = row.torn; w < 12; w++) {
                row.open.add(w);
            }
            return true;
        }

        long sent(int h, int coins) {
            if (!in(h, 0, 11) || !in(coins, 1, 1_000_000) || sents.size() == 60) {
                return NONE;
            }
            Sent s = new Sent(now, h, coins);
            sents.add(s);
            return sendBack(books, s);
        }

        long sendBack(Books k, Sent s) {
            long lack = s.coins() * COIN;
            for (int t = 0; t < 40; t++) {
                for (int n = 0; n < bargains.size(); n++) {
                    if (bargains.get(n).kind() == 4 && bargains.get(n).hand() == s.hand()) {
                        long take = Math.min(lack, k.bag(t, n));
                        k.setBag(t, n, k.bag(t, n) - take);
                        lack -= take;
                    }
                }
            }
            k.debt[s.hand()] += lack;
            return lack;
        }

        int close() {
            if (now == 40) {
                return NONE;
            }
            reckon(books, now);
            return now++;
        }

        Set setAt(int w, int day) {
            Set found = shares.get(w).get(0);
            for (Set s : shares.get(w)) {
                if (s.day() <= day) {
                    found = s;
                }
            }
            return found;
        }

        void reckon(Books k, int t) {
            k.lines.clear();
            Row row = rows.get(t);
            for (int w : row.order) {
                if (row.open.contains(w)) {
                    continue;
                }
                Report r = row.reports.get(w);
                int[] coins = r.days ? new int[] {r.a, r.b, r.c} : new int[] {r.a};
                int[] days = r.days ? new int[] {29, 59, 89} : new int[] {89};
                for (int p = 0; p < coins.length; p++) {
                    Set set = setAt(w, 90 * t + days[p]);
                    k.cameIn += coins[p] * COIN;
                    for (int i = 0; i < 3; i++) {
                        go(k, t, w, set.hands()[i], NONE, 0, 1000L * coins[p] * set.parts()[i]);
                    }
                }
            }
            for (int n = 0; n < bargains.size(); n++) {
                Bargain b = bargains.get(n);
                if (b.kind() == 4 && t - b.y() >= 0) {
                    k.purse[b.hand()] += k.bag(t - b.y(), n);
                    k.setBag(t - b.y(), n, 0);
                }
            }
            long[] due = new long[12];
            k.dues.add(due);
            for (int h = 0; h < 12; h++) {
                while (k.debt[h] > 0 && k.purse[h] > 0) {
                    long goes = Math.min(k.debt[h], k.purse[h]);
                    k.debt[h] -= goes;
                    k.purse[h] -= goes;
                }
                if (k.purse[h] >= COIN) {
                    due[h] = k.purse[h] / COIN;
                    k.purse[h] %= COIN;
                }
            }
            for (int n = 0; t % 4 == 3 && n < bargains.size(); n++) {
                Bargain b = bargains.get(n);
                long year = 0;
                for (int u = t - 3; u <= t; u++) {
                    year += k.dues.get(u)[b.hand()];
                }
                if (b.kind() == 2 && b.day() <= 90 * t + 89 && year < b.x()) {
                    due[b.hand()] += b.x() - year;
                    k.filled[b.hand()] += b.x() - year;
                }
            }
        }

        void go(Books k, int t, int w, int h, int from, int passed, long mites) {
            if (mites == 0) {
                return;
            }
            Line line = new Line(w, h, from, mites, new long[1]);
            k.lines.add(line);
            for (int n = from + 1; n < bargains.size(); n++) {
                Bargain b = bargains.get(n);
                boolean passes = b.kind() == 0 || b.kind() == 3;
                if (b.hand() != h || (b.works() & 1 << w) == 0 || b.day() > 90 * t + 89 || passes && passed == 2) {
                    continue;
                }
                long came = k.came.getOrDefault(n, 0L);
                long kept = k.kept.getOrDefault(n, 0L);
                long take = 0;
                if (b.kind() == 0 || b.kind() == 4) {
                    take = mites * b.x() / 1000;
                } else if (b.kind() == 1) {
                    take = kept + mites <= b.x() * COIN ? mites : b.x() * COIN - kept;
                } else if (b.kind() == 3) {
                    long sum = b.y() * COIN;
                    long below = came >= sum ? 0 : came + mites <= sum ? mites : sum - came;
                    take = below * b.x() / 1000 + (mites - below) * b.z() / 1000;
                }
                k.came.put(n, came + mites);
                k.kept.put(n, kept + take);
                mites -= take;
                if (b.kind() == 4) {
                    k.setBag(t, n, k.bag(t, n) + take);
                }
                if (passes) {
                    go(k, t, w, b.taker(), n, passed + 1, take);
                }
            }
            k.purse[h] += mites;
            line.ended()[0] = mites;
        }

        Books anew() {
            Books k = new Books();
            for (int t = 0; t <= now; t++) {
                for (Sent s : sents) {
                    if (s.term() == t) {
                        sendBack(k, s);
                    }
                }
                if (t < now) {
                    reckon(k, t);
                }
            }
            return k;
        }

        boolean mend(int t, int w, int a, int b, int c, boolean days) {
            if (!in(t, 0, now - 1) || !fits(w, a, b, c, days)) {
                return false;
            }
            rows.get(t).put(w, new Report(a, b, c, days));
            rows.get(t).open.remove(w);
            return true;
        }

        long owed(int h) {
            return anew().worth(h) - books.worth(h);
        }

        long owe() {
            Books k = anew();
            long all = 0;
            for (int h = 0; h < 12; h++) {
                all += k.worth(h) - books.worth(h);
            }
            return all;
        }

        int settle() {
            Books k = anew();
            int hands = 0;
            for (int h = 0; h < 12; h++) {
                long owed = k.worth(h) - books.worth(h);
                hands += owed != 0 ? 1 : 0;
                k.purse[h] = books.purse[h] + owed + (k.debt[h] - books.debt[h]);
            }
            k.dues.clear();
            k.dues.addAll(books.dues);
            k.lines.clear();
            k.lines.addAll(books.lines);
            books = k;
            settled++;
            return hands;
        }

        long due(int h, int t) {
            return in(h, 0, 11) && in(t, 0, now - 1) ? books.dues.get(t)[h] : NONE;
        }

        long hand(int h, int what) {
            if (!in(h, 0, 11) || !in(what, 0, 4)) {
                return NONE;
            }
            return what == 4 ? owed(h)
                : new long[] {books.purse[h], books.debt[h], books.duesOf(h), books.filled[h]}[what];
        }

        long has(int n, int what) {
            if (!in(n, 0, bargains.size() - 1)) {
                return NONE;
            }
            Bargain b = bargains.get(n);
            long kept = books.kept.getOrDefault(n, 0L);
            if (what == 0) {
                return kept;
            }
            if (what == 1) {
                return books.came.getOrDefault(n, 0L);
            }
            if (what == 2 && b.kind() == 1) {
                return b.x() * COIN - kept;
            }
            if (what == 2) {
                return books.bags.values().stream().mapToLong(m -> m.getOrDefault(n, 0L)).sum();
            }
            return in(what, 20, 59) ? books.bag(what - 20, n) : 0;
        }

        long told(int t, int w, int what) {
            if (!in(t, 0, Math.min(now, 39)) || !in(w, 0, 11) || !in(what, 0, 4)) {
                return NONE;
            }
            Row row = rows.get(t);
            Report r = row.reports.getOrDefault(w, new Report(0, 0, 0, false));
            int way = !row.reports.containsKey(w) ? 0 : r.days ? 2 : 1;
            return new long[] {r.a, r.b, r.c, way + (row.open.contains(w) ? 4 : 0), row.order.indexOf(w)}[what];
        }

        long line(int i, int what) {
            if (!in(i, 0, Math.min(600, books.lines.size()) - 1) || !in(what, 0, 4)) {
                return NONE;
            }
            Line l = books.lines.get(i);
            return new long[] {l.work(), l.hand(), l.from(), l.began(), l.ended()[0]}[what];
        }

        long count(int what) {
            switch (what) {
                case 0: return now;
                case 1: return bargains.size();
                case 2: return books.lines.size();
                case 3: return books.cameIn;
                case 4: return java.util.Arrays.stream(books.filled).sum();
                case 5: return sents.stream().mapToLong(s -> s.coins() * COIN).sum();
                case 6: return now < 40 ? rows.get(now).torn : NONE;
                case 7: return settled;
                default: return NONE;
            }
        }
    }

    /** How one run draws its calls: some runs are busy, some rush through the terms, some play with small sums. */
    static final class Run {
        final Random r;
        final SongOffice x = new SongOffice();
        final Model m = new Model();
        final int most;
        final int hands;
        final int works;
        final int haste;
        final List<String> log = new ArrayList<>();
        int wrong = 0;

        Run(long seed) {
            r = new Random(seed);
            most = new int[] {3, 20, 1000, 1_000_000}[r.nextInt(4)];
            hands = new int[] {2, 3, 5, 12}[r.nextInt(4)];
            works = new int[] {1, 2, 12}[r.nextInt(3)];
            haste = new int[] {3, 8, 20}[r.nextInt(3)];
        }

        boolean rarely() {
            return r.nextInt(25) == 0;
        }

        int pick(int n) {
            return rarely() ? r.nextInt(60) - 10 : r.nextInt(n);
        }

        int sum() {
            return rarely() ? new int[] {-1, 0, 1_000_000, 1_000_001}[r.nextInt(4)] : r.nextInt(most + 1);
        }

        int part() {
            return rarely() ? new int[] {0, 1, 1000, 1001}[r.nextInt(4)] : 1 + r.nextInt(1000);
        }

        int day() {
            return rarely() ? r.nextInt(3700) - 50 : m.now * 90 + r.nextInt(haste * 20);
        }

        void due(String call, long got, long want) {
            log.add(call + " -> " + want);
            if (got != want) {
                wrong++;
                System.out.println(call + " answered " + got + ", due is " + want);
            }
        }

        void due(String call, boolean got, boolean want) {
            due(call, got ? 1 : 0, want ? 1 : 0);
        }

        void step(int i) {
            int k = r.nextInt(100);
            if (k < (i < 40 ? 20 : 4)) {
                share();
            } else if (k < (i < 60 ? 35 : 8)) {
                bargain();
            } else if (k < 40) {
                report();
            } else if (k < 40 + haste) {
                due("close()", x.close(), m.close());
            } else if (k < 66) {
                mend();
            } else if (k < 70) {
                int n = r.nextInt(15) - 2;
                due("tear(" + n + ")", x.tear(n), m.tear(n));
            } else if (k < 75) {
                int h = pick(hands);
                int c = sum();
                due("sent(" + h + ", " + c + ")", x.sent(h, c), m.sent(h, c));
            } else if (k < 78) {
                due("settle()", x.settle(), m.settle());
            } else if (k < 81) {
                due("owe()", x.owe(), m.owe());
            } else {
                look();
            }
        }

        void share() {
            int w = pick(works);
            int day = day();
            int[] h = {pick(hands), r.nextInt(3) == 0 ? NONE : pick(hands), r.nextInt(2) == 0 ? NONE : pick(hands)};
            int[] p = {0, 0, 0};
            int left = 1000;
            for (int i = 2; i > 0; i--) {
                if (h[i] != NONE && left > 1) {
                    p[i] = 1 + r.nextInt(left - 1);
                    left -= p[i];
                }
            }
            p[0] = left;
            if (rarely()) {
                p[r.nextInt(3)] += r.nextInt(3) - 1;
            }
            String sharers = h[0] + ", " + p[0] + ", " + h[1] + ", " + p[1] + ", " + h[2] + ", " + p[2];
            due("share(" + w + ", " + day + ", " + sharers + ")",
                x.share(w, day, h[0], p[0], h[1], p[1], h[2], p[2]), m.share(w, day, h, p));
        }

        void bargain() {
            int kind = rarely() ? r.nextInt(7) - 1 : r.nextInt(5);
            int bits = rarely() ? r.nextInt(5000) - 100 : 1 + r.nextInt(4095);
            int v = kind == 1 || kind == 2 ? sum() : part();
            int y = kind == 4 ? r.nextInt(10) : sum();
            int z = rarely() ? r.nextInt(1100) - 50 : r.nextInt(1001);
            Bargain b = new Bargain(kind, pick(hands), bits, day(), v, y, z, pick(hands));
            due(b.toString(), x.bargain(b.kind(), b.hand(), b.works(), b.day(), b.x(), b.y(), b.z(), b.taker()),
                m.bargain(b));
        }

        void report() {
            int w = pick(works);
            int a = sum();
            int b = sum();
            int c = sum();
            boolean days = r.nextBoolean();
            due("report(" + w + ", " + a + ", " + b + ", " + c + ", " + days + ")",
                x.report(w, a, b, c, days), m.report(w, a, b, c, days));
        }

        void mend() {
            int t = rarely() ? r.nextInt(45) - 2 : r.nextInt(Math.max(1, m.now));
            int w = pick(works);
            int a = sum();
            int b = sum();
            int c = sum();
            boolean days = r.nextBoolean();
            due("mend(" + t + ", " + w + ", " + a + ", " + b + ", " + c + ", " + days + ")",
                x.mend(t, w, a, b, c, days), m.mend(t, w, a, b, c, days));
        }

        void look() {
            int h = pick(hands);
            int t = rarely() ? r.nextInt(45) - 2 : r.nextInt(m.now + 1);
            int what = r.nextInt(7) - 1;
            int n = pick(24);
            int bag = r.nextInt(65);
            int i = rarely() ? r.nextInt(700) - 3 : r.nextInt(Math.max(1, m.books.lines.size()));
            int w = pick(works);
            due("due(" + h + ", " + t + ")", x.due(h, t), m.due(h, t));
            due("hand(" + h + ", " + what + ")", x.hand(h, what), m.hand(h, what));
            due("has(" + n + ", " + what + ")", x.has(n, what), m.has(n, what));
            due("has(" + n + ", " + bag + ")", x.has(n, bag), m.has(n, bag));
            due("told(" + t + ", " + w + ", " + what + ")", x.told(t, w, what), m.told(t, w, what));
            due("line(" + i + ", " + what + ")", x.line(i, what), m.line(i, what));
            due("count(" + what + ")", x.count(what), m.count(what));
        }

        void lookAtAll() {
            for (int what = 0; what < 8; what++) {
                due("count(" + what + ")", x.count(what), m.count(what));
                for (int h = 0; h < 12 && what < 5; h++) {
                    due("hand(" + h + ", " + what + ")", x.hand(h, what), m.hand(h, what));
                }
                for (int i = 0; i < 601 && what < 5; i++) {
                    due("line(" + i + ", " + what + ")", x.line(i, what), m.line(i, what));
                }
                for (int i = 0; i < 40 * 12 && what < 5; i++) {
                    due("told(" + i / 12 + ", " + i % 12 + ", " + what + ")",
                        x.told(i / 12, i % 12, what), m.told(i / 12, i % 12, what));
                }
            }
            for (int i = 0; i < 24 * 60; i++) {
                due("has(" + i / 60 + ", " + i % 60 + ")", x.has(i / 60, i % 60), m.has(i / 60, i % 60));
            }
            for (int i = 0; i < 12 * 40; i++) {
                due("due(" + i / 40 + ", " + i % 40 + ")", x.due(i / 40, i % 40), m.due(i / 40, i % 40));
            }
        }
    }

    public static void main(String[] args) {
        long terms = 0;
        long lines = 0;
        long owed = 0;
        for (int seed = 0; seed < RUNS; seed++) {
            Run run = new Run(seed);
            for (int i = 0; i < CALLS && run.wrong == 0; i++) {
                run.step(i);
            }
            if (run.wrong == 0) {
                run.lookAtAll();
            }
            if (run.wrong > 0) {
                System.out.println("the run of seed " + seed + ":");
                run.log.forEach(row -> System.out.println("  " + row));
                System.exit(1);
            }
            terms += run.m.now;
            lines += run.m.books.lines.size();
            owed += run.m.owe() != 0 ? 1 : 0;
        }
        System.out.println(RUNS + " runs are as due (" + terms + " terms, " + lines + " last lines, " + owed
            + " runs with something owed)");
    }
}
