import java.util.ArrayList;
import java.util.List;

/**
 * The document read sentence by sentence: each that names a boundary (too small, too large, empty, full, a wrap-around,
 * a refused call) is tried on both sides of it. What a refused call leaves is compared with a twin that never had it.
 * No office is asked more than 512 times.
 */
public final class BoundaryTests {
    private static final int NONE = SongOffice.NONE;
    private static final int SPLIT = 0;
    private static final int ADVANCE = 1;
    private static final int FLOOR = 2;
    private static final int STEP = 3;
    private static final int RESERVE = 4;
    private static final int ALL = 4095;
    private static final int MOST = 1_000_000;
    private static final long COIN = 1_000_000L;
    private static final int LOW = Integer.MIN_VALUE;
    private static final int HIGH = Integer.MAX_VALUE;

    /** What an office has gone through ahead of the call. */
    interface Past {
        void make(SongOffice x);
    }

    /** A call with one argument that varies; a refused one answers NONE. */
    interface Call {
        long on(SongOffice x, int v);
    }

    private static int wrong = 0;
    private static int tried = 0;
    private static String sentence = "";

    public static void main(String[] args) {
        names();
        terms();
        sharesByDay();
        bargainKinds();
        linesAndTheirWay();
        reportsAndTears();
        closes();
        sentBack();
        mendedAndAnew();
        settles();
        shareArguments();
        bargainArguments();
        reportArguments();
        otherArguments();
        questions();
        manyLines();
        largest();
        ownMemory();
        nothingLeft();
        System.out.println(wrong == 0 ? tried + " answers at boundaries are due" : wrong + " answers are not as due");
        if (wrong != 0) {
            System.exit(1);
        }
    }

    // ---- how answers are compared

    private static void due(String call, long got, long want) {
        tried++;
        if (got != want) {
            wrong++;
            System.out.println(sentence + " | " + call + " answered " + got + ", due is " + want);
        }
    }

    private static void row(String what, long[] got, long... want) {
        due(what + ": how many", got.length, want.length);
        for (int i = 0; i < got.length && i < want.length; i++) {
            due(what + " [" + i + "]", got[i], want[i]);
        }
    }

    private static long told(boolean answer) {
        return answer ? 1 : NONE;
    }

    private static SongOffice after(Past past) {
        SongOffice x = new SongOffice();
        past.make(x);
        return x;
    }

    private static void taken(String what, Past past, Call call, int... values) {
        for (int v : values) {
            due(what + " " + v + ": refused", call.on(after(past), v) == NONE ? 1 : 0, 0);
        }
    }

    private static void refused(String what, Past past, Call call, int... values) {
        List<Long> twin = state(after(past));
        for (int v : values) {
            SongOffice x = after(past);
            due(what + " " + v, call.on(x, v), NONE);
            List<Long> left = state(x);
            for (int i = 0; i < twin.size(); i++) {
                due(what + " " + v + ": changed answer " + i, left.get(i), twin.get(i));
            }
        }
    }

    /** Both ends are taken, and what lies behind them on either side is not. */
    private static void range(String what, Past past, Call call, int low, int high) {
        taken(what, past, call, low, high);
        refused(what, past, call, low - 1, high + 1, LOW, HIGH);
    }

    /**
     * Much of what an office tells (of BARGAINS the first seven, of LINES the first fourteen, so that 512 calls are
     * enough), and the same behind one more TERM, which shows the SHARES too.
     */
    private static List<Long> state(SongOffice x) {
        List<Long> all = new ArrayList<>();
        seen(x, all);
        int now = (int) x.count(0);
        for (int w = 0; w < 12; w++) {
            for (int what = 0; what < 5; what++) {
                all.add((long) x.told(0, w, what));
                if (now > 0) {
                    all.add((long) x.told(now, w, what));
                }
            }
        }
        for (int w = 0; w < 12; w++) {
            all.add(told(x.report(w, 5, 6, 7, true)));
        }
        all.add((long) x.close());
        seen(x, all);
        return all;
    }

    private static void seen(SongOffice x, List<Long> all) {
        for (int what = 0; what < 8; what++) {
            all.add(x.count(what));
        }
        for (int h = 0; h < 12; h++) {
            for (int what = 0; what < 5; what++) {
                all.add(x.hand(h, what));
            }
        }
        for (int n = 0; n < 7; n++) {
            for (int what : new int[] {0, 1, 2, 20, 21}) {
                all.add(x.has(n, what));
            }
        }
        for (int i = 0; i < 14; i++) {
            all.add(x.line(i, 3));
        }
    }

    // ---- offices

    private static int alone(SongOffice x, int work, int hand) {
        return x.share(work, (int) x.count(0) * 90, hand, 1000, NONE, 0, NONE, 0);
    }

    private static int aloneFrom(SongOffice x, int work, int day, int hand) {
        return x.share(work, day, hand, 1000, NONE, 0, NONE, 0);
    }

    private static boolean brings(SongOffice x, int work, int coins) {
        return x.report(work, coins, 0, 0, false);
    }

    private static void closeTo(SongOffice x, int term) {
        for (int t = 0; t < 40 && x.count(0) < term; t++) {
            x.close();
        }
    }

    /** WORK w belongs to HAND w alone, for WORKS 0 to 2. */
    private static SongOffice office() {
        SongOffice x = new SongOffice();
        for (int w = 0; w < 3; w++) {
            alone(x, w, w);
        }
        return x;
    }

    private static final Past EMPTY = x -> { };

    /** TERM 2, with something of all that an office can have. */
    private static final Past BUSY = x -> {
        x.share(0, 0, 0, 600, 1, 400, NONE, 0);
        alone(x, 1, 2);
        x.share(11, 0, 11, 500, 10, 300, 9, 200);
        x.bargain(SPLIT, 0, 1, 0, 250, 0, 0, 3);
        x.bargain(ADVANCE, 1, 1, 0, 5, 0, 0, 0);
        x.bargain(FLOOR, 0, 1, 0, 30, 0, 0, 0);
        x.bargain(STEP, 2, 2, 0, 100, 15, 500, 4);
        x.bargain(RESERVE, 0, ALL, 0, 100, 2, 0, 0);
        brings(x, 0, 10);
        x.report(1, 4, 5, 6, true);
        brings(x, 11, 9);
        x.tear(11);
        x.close();
        brings(x, 1, 7);
        x.sent(0, 1);
        x.close();
        x.mend(0, 0, 12, 0, 0, false);
        x.report(0, 3, 2, 1, true);
        x.sent(1, 2);
        x.tear(11);
    };

    private static Past closed(int terms) {
        return x -> {
            for (int w = 0; w < 3; w++) {
                alone(x, w, w);
            }
            closeTo(x, terms);
        };
    }

    // ---- Terms, 1

    private static void names() {
        sentence = "HANDS 0 to 11, WORKS 0 to 11";
        for (int w = 0; w < 12; w += 11) {
            SongOffice x = new SongOffice();
            due("share", alone(x, w, 11 - w), 1);
            due("report", told(brings(x, w, 3)), 1);
            due("told", x.told(0, w, 0), 3);
            x.close();
            due("due", x.due(11 - w, 0), 3);
            due("the other hand's due", x.due(w, 0), 0);
            due("dues", x.hand(11 - w, 2), 3);
            due("mend", told(x.mend(0, w, 4, 0, 0, false)), 1);
            due("owed", x.hand(11 - w, 4), COIN);
            due("sent", x.sent(11 - w, 2), 2 * COIN);
            due("debt", x.hand(11 - w, 1), 2 * COIN);
        }
        sentence = "A COIN is 1,000,000 MITES";
        SongOffice x = office();
        brings(x, 0, 1);
        x.close();
        due("one coin came in", x.count(3), 1_000_000);
        due("one coin's line", x.line(0, 3), 1_000_000);
        due("one coin sent back", x.sent(0, 1), 1_000_000);
        sentence = "NONE = -1";
        due("NONE", NONE, -1);
    }

    private static void terms() {
        sentence = "TERM t the DAYS 90 t to 90 t + 89";
        for (int t : new int[] {1, 2, 39}) {
            refused("share, a day too soon in term " + t, closed(t), (x, v) -> aloneFrom(x, 5, v, 0), 90 * t - 1);
            taken("share in term " + t, closed(t), (x, v) -> aloneFrom(x, 5, v, 0), 90 * t, 90 * t + 89);
            refused("bargain, a day too soon in term " + t, closed(t), (x, v) -> split(x, v), 90 * t - 1);
            taken("bargain in term " + t, closed(t), (x, v) -> split(x, v), 90 * t, 90 * t + 89);
        }
        for (int t : new int[] {0, 1, 38}) {
            SongOffice x = after(closed(t));
            x.bargain(SPLIT, 0, 1, 90 * t + 89, 100, 0, 0, 5);
            x.bargain(SPLIT, 0, 1, 90 * t + 90, 100, 0, 0, 6);
            brings(x, 0, 10);
            x.close();
            due("from the last day of term " + t, x.has(0, 1), 10 * COIN);
            due("from the day behind term " + t, x.has(1, 1), 0);
            brings(x, 0, 10);
            x.close();
            due("in the term behind", x.has(1, 1), 9 * COIN);
        }
        sentence = "THE TERM is the first that is not CLOSED (40: none)";
        SongOffice x = new SongOffice();
        for (int t = 0; t < 40; t++) {
            due("the term", x.count(0), t);
            due("close", x.close(), t);
        }
        due("none", x.count(0), 40);
        due("close", x.close(), NONE);
        due("none still", x.count(0), 40);
    }

    private static int split(SongOffice x, int day) {
        return x.bargain(SPLIT, 0, 1, day, 1, 0, 0, 1);
    }

    private static void sharesByDay() {
        sentence = "At a DAY those of the latest DAY not behind it count (of DAYS 29, 59, 89 of THE TERM)";
        int[] last = {29, 59, 89};
        for (int part = 0; part < 3; part++) {
            int[] coins = {0, 0, 0};
            coins[part] = 8;
            for (int late = 0; late < 2; late++) {
                SongOffice x = new SongOffice();
                alone(x, 0, 0);
                aloneFrom(x, 0, last[part] + late, 1);
                x.report(0, coins[0], coins[1], coins[2], true);
                x.close();
                due("part " + part + ", set of day " + (last[part] + late), x.due(1 - late, 0), 8);
                due("the other hand", x.due(late, 0), 0);
            }
        }
        sentence = "of one part: 89";
        for (int late = 0; late < 2; late++) {
            SongOffice x = new SongOffice();
            x.close();
            alone(x, 0, 0);
            aloneFrom(x, 0, 179 + late, 1);
            brings(x, 0, 8);
            x.close();
            due("set of day " + (179 + late), x.due(1 - late, 1), 8);
            due("the other hand", x.due(late, 1), 0);
        }
        sentence = "ahead of the first those";
        SongOffice x = new SongOffice();
        aloneFrom(x, 0, 3598, 3);
        aloneFrom(x, 0, 3599, 4);
        x.report(0, 1, 2, 4, true);
        x.close();
        due("the first set", x.due(3, 0), 7);
        due("the last set", x.due(4, 0), 0);
        sentence = "the latest DAY not behind it: all six in one TERM";
        SongOffice y = new SongOffice();
        for (int k = 0; k < 6; k++) {
            aloneFrom(y, 0, k == 5 ? 90 : 10 + k, k);
        }
        brings(y, 0, 2);
        y.close();
        due("the fifth", y.due(4, 0), 2);
        brings(y, 0, 2);
        y.close();
        due("the sixth", y.due(5, 1), 2);
    }

    private static void bargainKinds() {
        sentence = "BARGAINS are numbered from 0 on, 24 at most";
        SongOffice full = new SongOffice();
        for (int n = 0; n < 24; n++) {
            due("number", split(full, 0), n);
        }
        due("the 25th", split(full, 0), NONE);
        due("how many", full.count(1), 24);
        due("has of the last", full.has(23, 0), 0);
        due("has of none", full.has(24, 0), NONE);
        splitProducts();
        advances();
        steps();
        reserveProducts();
    }

    private static void splitProducts() {
        sentence = "SPLIT: MITES * part / 1000 are passed on; cut downwards";
        // A RESERVE of part 999 leaves 1 MITE of 1000, one of part 1 leaves 999.
        int[][] want = {{1, 1, 0}, {1, 999, 0}, {1, 1000, 1}, {999, 1, 0}, {999, 999, 998}, {999, 1000, 999}};
        for (int[] w : want) {
            SongOffice x = new SongOffice();
            x.share(0, 0, 0, 1, 1, 999, NONE, 0);
            x.bargain(RESERVE, 0, 1, 0, 1000 - w[0], 1, 0, 0);
            x.bargain(SPLIT, 0, 1, 0, w[1], 0, 0, 2);
            brings(x, 0, 1);
            x.close();
            due("came", x.has(1, 1), w[0]);
            due(w[0] + " by " + w[1], x.has(1, 0), w[2]);
            due("the taker", x.hand(2, 0), w[2]);
            due("left", x.hand(0, 0), w[0] - w[2]);
            sentence = "A LINE (one of 0 is none)";
            due("lines of " + w[2], x.count(2), w[2] == 0 ? 2 : 3);
            sentence = "SPLIT: MITES * part / 1000 are passed on; cut downwards";
        }
    }

    private static void advances() {
        sentence = "ADVANCE: it keeps what comes till it has kept sum COINS in all";
        int[][] want = {{4, 4, 0}, {5, 5, 0}, {6, 5, 1}};
        for (int[] w : want) {
            SongOffice x = office();
            x.bargain(ADVANCE, 0, 1, 0, 5, 0, 0, 0);
            brings(x, 0, w[0]);
            x.close();
            due("kept of " + w[0], x.has(0, 0), w[1] * COIN);
            due("still to come", x.has(0, 2), (5 - w[1]) * COIN);
            due("due", x.due(0, 0), w[2]);
            due("the line's purse", x.line(0, 4), w[2] * COIN);
            brings(x, 0, 3);
            x.close();
            due("kept in all", x.has(0, 0), 5 * COIN);
            due("due then", x.due(0, 1), 3 - (5 - w[1]));
            due("came", x.has(0, 1), (w[0] + 3) * COIN);
        }
        SongOffice y = new SongOffice();
        y.share(0, 0, 0, 999, 1, 1, NONE, 0);
        y.bargain(ADVANCE, 0, 1, 0, 1, 0, 0, 0);
        brings(y, 0, 1);
        y.close();
        due("a thousandth short of the sum", y.has(0, 2), 1000);
        brings(y, 0, 1);
        y.close();
        due("back", y.has(0, 2), 0);
        due("what was behind it", y.hand(0, 0), 998_000);
    }

    private static void steps() {
        sentence = "STEP: those ahead of sum COINS are taken by part, the others by other";
        int[][] want = {{9, 900}, {10, 1000}, {11, 1500}};
        for (int[] w : want) {
            SongOffice x = office();
            x.bargain(STEP, 0, 1, 0, 100, 10, 500, 5);
            brings(x, 0, w[0]);
            x.close();
            due("passed of " + w[0], x.has(0, 0), w[1] * 1000L);
            due("came", x.has(0, 1), w[0] * COIN);
            due("one line is passed on", x.count(2), 2);
            brings(x, 0, 1);
            x.close();
            due("then of one more", x.has(0, 0), (w[1] + (w[0] < 10 ? 100 : 500)) * 1000L);
        }
        sentence = "STEP: of all MITES that ever came to it, in whatever LINES";
        SongOffice y = new SongOffice();
        y.share(0, 0, 0, 500, 1, 500, NONE, 0);
        alone(y, 1, 0);
        y.bargain(SPLIT, 1, 3, 0, 1000, 0, 0, 0);
        y.bargain(STEP, 0, 3, 0, 1000, 9, 0, 5);
        y.report(0, 4, 4, 4, true);
        brings(y, 1, 4);
        y.close();
        due("six lines and one", y.has(1, 1), 16 * COIN);
        due("nine coins", y.has(1, 0), 9 * COIN);
        sentence = "STEP: other 0 and 1000";
        for (int other = 0; other <= 1000; other += 1000) {
            SongOffice x = office();
            x.bargain(STEP, 0, 1, 0, 1, 1, other, 5);
            brings(x, 0, 3);
            x.close();
            due("passed by other " + other, x.has(0, 0), 1000 + other * 2000L);
            brings(x, 0, 1);
            x.close();
            due("no line of 0", x.count(2), other == 0 ? 1 : 2);
        }
    }

    private static void reserveProducts() {
        sentence = "RESERVE: it keeps a LINE's MITES * part / 1000 in this TERM's BAG";
        int[][] want = {{1, 1, 0}, {1, 1000, 1}, {999, 1, 0}, {999, 999, 998}, {999, 1000, 999}};
        for (int[] w : want) {
            SongOffice x = new SongOffice();
            x.share(0, 0, 0, 1, 1, 999, NONE, 0);
            x.bargain(SPLIT, 0, 1, 0, 1000 - w[0], 0, 0, 2);
            x.bargain(RESERVE, 0, 1, 0, w[1], 8, 0, 0);
            brings(x, 0, 1);
            x.close();
            due(w[0] + " by " + w[1], x.has(1, 0), w[2]);
            due("the bag of term 0", x.has(1, 20), w[2]);
            due("the bag of term 1", x.has(1, 21), 0);
            due("left", x.hand(0, 0), w[0] - w[2]);
        }
        SongOffice y = office();
        y.bargain(RESERVE, 0, 1, 0, 500, 8, 0, 0);
        y.report(0, 2, 4, 6, true);
        y.close();
        due("three lines, one bag", y.has(0, 20), 6 * COIN);
        brings(y, 0, 2);
        y.close();
        due("its own bag", y.has(0, 21), COIN);
        due("the other stays", y.has(0, 20), 6 * COIN);
    }

    // ---- Terms, 2

    private static void linesAndTheirWay() {
        sentence = "A LINE (one of 0 is none)";
        SongOffice x = office();
        x.bargain(SPLIT, 0, 1, 0, 500, 0, 0, 5);
        x.report(0, 0, 0, 0, true);
        brings(x, 1, 0);
        x.close();
        due("nothing came: no lines", x.count(2), 0);
        due("told all the same", x.told(0, 0, 3), 2);
        x.report(0, 0, 1, 0, true);
        x.close();
        due("one part and what is passed on", x.count(2), 2);
        x.bargain(ADVANCE, 1, 2, 180, 1, 0, 0, 0);
        x.bargain(SPLIT, 1, 2, 180, 500, 0, 0, 5);
        brings(x, 1, 1);
        x.close();
        due("all kept: nothing is left to pass on", x.count(2), 1);
        sentence = "for that WORK";
        SongOffice y = office();
        y.bargain(SPLIT, 0, ALL - 1, 0, 500, 0, 0, 5);
        y.bargain(SPLIT, 0, 1, 0, 500, 0, 0, 6);
        y.bargain(SPLIT, 1, 1, 0, 500, 0, 0, 5);
        brings(y, 0, 8);
        y.close();
        due("all works but it", y.has(0, 1), 0);
        due("it alone", y.has(1, 1), 8 * COIN);
        due("that HAND's", y.has(2, 1), 0);
        SongOffice z = new SongOffice();
        alone(z, 11, 0);
        z.bargain(SPLIT, 0, 2047, 0, 500, 0, 0, 5);
        z.bargain(SPLIT, 0, 2048, 0, 500, 0, 0, 6);
        brings(z, 11, 8);
        z.close();
        due("all works but the last", z.has(0, 1), 0);
        due("the last alone", z.has(1, 1), 8 * COIN);
        wayBehindItsBargain();
        passedOnTwice();
    }

    private static void wayBehindItsBargain() {
        sentence = "by number, from the BARGAIN it comes from on (behind it)";
        SongOffice x = office();
        x.bargain(ADVANCE, 5, 1, 0, 100, 0, 0, 0);
        x.bargain(SPLIT, 0, 1, 0, 500, 0, 0, 5);
        x.bargain(ADVANCE, 5, 1, 0, 3, 0, 0, 0);
        x.bargain(ADVANCE, 5, 1, 0, 100, 0, 0, 0);
        brings(x, 0, 10);
        x.close();
        due("ahead of it", x.has(0, 1), 0);
        due("next behind it", x.has(2, 1), 5 * COIN);
        due("by number: what the one before has left", x.has(3, 1), 2 * COIN);
        sentence = "which goes all its way first";
        SongOffice y = office();
        y.bargain(SPLIT, 0, 1, 0, 400, 0, 0, 1);
        y.bargain(SPLIT, 1, 1, 0, 500, 0, 0, 2);
        y.bargain(SPLIT, 0, 1, 0, 500, 0, 0, 3);
        brings(y, 0, 10);
        y.close();
        row("hands in the order of their lines", new long[] {y.line(0, 1), y.line(1, 1), y.line(2, 1), y.line(3, 1)},
            0, 1, 2, 3);
        row("they came from", new long[] {y.line(0, 2), y.line(1, 2), y.line(2, 2), y.line(3, 2)}, NONE, 0, 1, 2);
        row("began with", new long[] {y.line(0, 3), y.line(1, 3), y.line(2, 3), y.line(3, 3)},
            10 * COIN, 4 * COIN, 2 * COIN, 3 * COIN);
        row("into the purse", new long[] {y.line(0, 4), y.line(1, 4), y.line(2, 4), y.line(3, 4)},
            3 * COIN, 2 * COIN, 2 * COIN, 3 * COIN);
        due("all lines", y.count(2), 4);
    }

    private static void passedOnTwice() {
        sentence = "a LINE that was passed on twice is let by (it does not count for a STEP)";
        for (int first : new int[] {SPLIT, STEP}) {
            for (int third : new int[] {SPLIT, STEP}) {
                SongOffice x = office();
                x.bargain(first, 0, 1, 0, 500, 1, 500, 3);
                x.bargain(third, 3, 1, 0, 500, 1, 500, 4);
                x.bargain(third, 4, 1, 0, 500, 1, 500, 5);
                x.bargain(third, 3, 1, 0, 500, 1, 500, 5);
                x.bargain(RESERVE, 4, 1, 0, 500, 1, 0, 0);
                x.bargain(ADVANCE, 4, 1, 0, 1, 0, 0, 0);
                brings(x, 0, 16);
                x.close();
                due("passed on once, then again", x.has(1, 0), 4 * COIN);
                due("passed on twice: let by", x.has(2, 0), 0);
                due("it does not count", x.has(2, 1), 0);
                due("passed on once: not let by a second time", x.has(3, 0), 2 * COIN);
                due("a RESERVE keeps", x.has(4, 0), 2 * COIN);
                due("an ADVANCE keeps", x.has(5, 0), COIN);
                due("what is left", x.due(4, 0), 1);
                due("of the second one", x.due(5, 0), 2);
                due("lines", x.count(2), 4);
            }
        }
        sentence = "let by: the STEP of that LINE's HAND counts what comes by itself";
        SongOffice y = office();
        alone(y, 4, 4);
        y.bargain(SPLIT, 0, 1, 0, 500, 0, 0, 3);
        y.bargain(SPLIT, 3, 1, 0, 500, 0, 0, 4);
        y.bargain(STEP, 4, 17, 0, 100, 4, 500, 5);
        brings(y, 0, 16);
        brings(y, 4, 4);
        y.close();
        due("four coins came", y.has(2, 1), 4 * COIN);
        due("none above its sum", y.has(2, 0), 400_000);
    }

    private static void reportsAndTears() {
        sentence = "TORN at n: THE TERM's row ends ahead of WORK n: WORKS from there on are OPEN";
        for (int n = -1; n <= 12; n++) {
            SongOffice x = new SongOffice();
            for (int w = 11; w >= 0; w--) {
                alone(x, w, w);
                brings(x, w, w + 1);
            }
            due("tear", told(x.tear(n)), 1);
            int first = Math.max(n, 0);
            due("where", x.count(6), first);
            x.close();
            for (int w = 0; w < 12; w++) {
                due("torn at " + n + ": told of " + w, x.told(0, w, 3), w < first ? 1 : 5);
                due("torn at " + n + ": due of " + w, x.due(w, 0), w < first ? w + 1 : 0);
                due("what was told stays", x.told(0, w, 0), w + 1);
                due("its place stays", x.told(0, w, 4), 11 - w);
            }
            due("came in", x.count(3), first * (first + 1L) / 2 * COIN);
            due("lines", x.count(2), first);
        }
        sentence = "The latest tear counts";
        int[][] tears = {{12, 0}, {0, 12}, {NONE, 2}, {2, NONE}, {1, 2}, {2, 1}};
        for (int[] t : tears) {
            SongOffice x = office();
            x.tear(t[0]);
            for (int w = 0; w < 3; w++) {
                brings(x, w, 1);
            }
            x.tear(t[1]);
            x.close();
            due("torn at " + t[0] + ", at " + t[1], x.count(2), Math.max(0, Math.min(t[1], 3)));
            due("the next TERM is whole", x.count(6), 12);
        }
        sentence = "REPORTS in the order in which they were told first in THE TERM";
        SongOffice y = office();
        brings(y, 2, 1);
        brings(y, 0, 1);
        brings(y, 1, 1);
        brings(y, 2, 5);
        y.close();
        row("works", new long[] {y.line(0, 0), y.line(1, 0), y.line(2, 0)}, 2, 0, 1);
        due("the later one counts", y.line(0, 3), 5 * COIN);
        brings(y, 1, 1);
        brings(y, 2, 1);
        y.close();
        row("another TERM, another order", new long[] {y.line(0, 0), y.line(1, 0)}, 1, 2);
    }

    private static void closes() {
        bagsLetOut();
        debtsAndDues();
        pursesBelowNothing();
        floors();
        years();
        orderOfAClose();
    }

    private static void bagsLetOut() {
        sentence = "Each RESERVE's BAG of THE TERM less its terms goes into its HAND's PURSE";
        for (int terms = 1; terms <= 8; terms++) {
            SongOffice x = office();
            x.bargain(RESERVE, 0, 1, 0, 1000, terms, 0, 0);
            brings(x, 0, 3);
            x.close();
            for (int t = 1; t < terms; t++) {
                x.close();
                due("not yet in " + t, x.due(0, t), 0);
                due("the bag in " + t, x.has(0, 20), 3 * COIN);
            }
            x.close();
            due("let out behind " + terms, x.due(0, terms), 3);
            due("and the BAG is empty", x.has(0, 20), 0);
            due("in all BAGS", x.has(0, 2), 0);
            due("kept in all", x.has(0, 0), 3 * COIN);
            x.close();
            due("once", x.hand(0, 2), 3);
        }
        sentence = "what is left in it";
        for (int coins = 2; coins <= 4; coins++) {
            SongOffice x = office();
            x.bargain(RESERVE, 0, 1, 0, 1000, 1, 0, 0);
            brings(x, 0, 3);
            x.close();
            due("debt of " + coins, x.sent(0, coins), Math.max(0, coins - 3) * COIN);
            x.close();
            due("let out", x.due(0, 1), Math.max(0, 3 - coins));
            due("debt stays", x.hand(0, 1), Math.max(0, coins - 3) * COIN);
        }
        sentence = "a BAG goes into its HAND's PURSE, to what is there";
        SongOffice y = new SongOffice();
        y.share(0, 0, 0, 900, 1, 100, NONE, 0);
        y.bargain(RESERVE, 0, 1, 0, 500, 1, 0, 0);
        y.bargain(RESERVE, 0, 1, 0, 500, 1, 0, 0);
        brings(y, 0, 1);
        y.close();
        due("a quarter", y.hand(0, 0), 225_000);
        y.close();
        due("all four", y.hand(0, 0), 900_000);
    }

    private static void debtsAndDues() {
        sentence = "if it has a DEBT and a PURSE above 0, as much of the PURSE as there is of the DEBT goes";
        for (int coins = 0; coins <= 4; coins++) {
            SongOffice x = office();
            x.sent(0, 3);
            brings(x, 0, coins);
            x.close();
            due("debt behind " + coins, x.hand(0, 1), Math.max(0, 3 - coins) * COIN);
            due("due behind " + coins, x.due(0, 0), Math.max(0, coins - 3));
            due("purse behind " + coins, x.hand(0, 0), 0);
        }
        sentence = "Its DUE is the whole COINS of the PURSE (0 if it is below a COIN), which leave it";
        SongOffice y = new SongOffice();
        y.share(0, 0, 0, 999, 1, 1, NONE, 0);
        y.share(1, 0, 0, 1, 1, 999, NONE, 0);
        alone(y, 2, 2);
        y.bargain(SPLIT, 0, 2, 0, 1, 0, 0, 2);
        for (int w = 0; w < 3; w++) {
            brings(y, w, 1);
        }
        y.close();
        due("999,999: due", y.due(0, 0), 0);
        due("999,999: purse", y.hand(0, 0), 999_999);
        due("1,000,000: due", y.due(1, 0), 1);
        due("1,000,000: purse", y.hand(1, 0), 0);
        due("1,000,001: due", y.due(2, 0), 1);
        due("1,000,001: purse", y.hand(2, 0), 1);
        due("0: due", y.due(3, 0), 0);
        sentence = "PURSE above 0, by one MITE";
        y.sent(2, 1);
        y.close();
        due("one mite of the debt", y.hand(2, 1), COIN - 1);
        due("purse", y.hand(2, 0), 0);
        y.sent(0, 1);
        y.close();
        due("a mite short", y.hand(0, 1), 1);
        due("purse", y.hand(0, 0), 0);
        sentence = "a DEBT of one MITE";
        brings(y, 0, 1);
        y.close();
        due("paid", y.hand(0, 1), 0);
        due("the rest", y.hand(0, 0), 998_999);
    }

    private static void pursesBelowNothing() {
        sentence = "a PURSE above 0: one below 0 pays no DEBT and is no DUE";
        int[][] want = {{1, -1, 0, 3}, {2, 0, 0, 3}, {3, 0, 0, 2}, {5, 0, 0, 0}, {6, 0, 1, 0}};
        for (int[] w : want) {
            SongOffice x = office();
            brings(x, 0, 2);
            x.close();
            x.mend(0, 0, 0, 0, 0, false);
            x.settle();
            due("below 0", x.hand(0, 0), -2 * COIN);
            x.sent(0, 3);
            brings(x, 0, w[0]);
            x.close();
            due("purse behind " + w[0], x.hand(0, 0), w[1] * COIN);
            due("due behind " + w[0], x.due(0, 1), w[2]);
            due("debt behind " + w[0], x.hand(0, 1), w[3] * COIN);
        }
        SongOffice y = new SongOffice();
        y.share(0, 0, 0, 1, 1, 999, NONE, 0);
        brings(y, 0, 1000);
        y.close();
        y.mend(0, 0, 999, 0, 0, false);
        y.settle();
        due("a thousand mites below 0", y.hand(0, 0), -1000);
        y.close();
        due("no due", y.due(0, 1), 0);
        due("it stays", y.hand(0, 0), -1000);
        brings(y, 0, 1);
        y.close();
        due("back at 0", y.hand(0, 0), 0);
    }

    private static void floors() {
        sentence = "if its HAND's DUES of the YEAR together are below sum, its DUE of THE TERM is so much more";
        for (int coins = 3; coins <= 6; coins++) {
            SongOffice x = office();
            x.bargain(FLOOR, 0, 1, 0, 5, 0, 0, 0);
            brings(x, 0, 2);
            x.close();
            brings(x, 0, coins - 2);
            closeTo(x, 4);
            int lack = Math.max(0, 5 - coins);
            due("filled to 5 from " + coins, x.hand(0, 3), lack);
            due("due of term 3", x.due(0, 3), lack);
            due("all filled", x.count(4), lack);
            due("dues", x.hand(0, 2), Math.max(5, coins));
        }
        SongOffice y = new SongOffice();
        y.share(0, 0, 0, 999, 1, 1, NONE, 0);
        y.bargain(FLOOR, 0, 1, 0, 5, 0, 0, 0);
        brings(y, 0, 5);
        closeTo(y, 4);
        due("a PURSE is no DUE", y.hand(0, 3), 1);
        due("and stays", y.hand(0, 0), 995_000);
        sentence = "each FLOOR, by number";
        int[][] sums = {{5, 8, 8}, {8, 5, 8}, {5, 5, 5}};
        for (int[] s : sums) {
            SongOffice x = office();
            x.bargain(FLOOR, 0, 1, 0, s[0], 0, 0, 0);
            x.bargain(FLOOR, 0, 2, 0, s[1], 0, 0, 0);
            closeTo(x, 4);
            due("the higher of two", x.due(0, 3), s[2]);
            due("filled", x.hand(0, 3), s[2]);
            due("another hand", x.due(1, 3), 0);
        }
        sentence = "each FLOOR whose DAY is not behind the TERM's last one";
        for (int day = 359; day <= 360; day++) {
            SongOffice x = office();
            x.bargain(FLOOR, 0, 1, day, 5, 0, 0, 0);
            closeTo(x, 4);
            due("from day " + day, x.due(0, 3), day == 359 ? 5 : 0);
            closeTo(x, 8);
            due("a year on", x.due(0, 7), 5);
        }
        sentence = "FLOOR 1 and 1,000,000";
        for (int sum : new int[] {1, MOST}) {
            SongOffice x = office();
            x.bargain(FLOOR, 0, 1, 0, sum, 0, 0, 0);
            closeTo(x, 4);
            due("filled", x.due(0, 3), sum);
        }
    }

    private static void years() {
        sentence = "four are a YEAR (0 to 3, and so on); in the last TERM of a YEAR";
        SongOffice x = office();
        x.bargain(FLOOR, 0, 1, 0, 5, 0, 0, 0);
        for (int t = 0; t < 40; t++) {
            x.close();
            due("due of " + t, x.due(0, t), t % 4 == 3 ? 5 : 0);
        }
        due("ten years", x.hand(0, 3), 50);
        sentence = "DUES of the YEAR together";
        for (int at = 3; at <= 8; at++) {
            SongOffice y = office();
            y.bargain(FLOOR, 0, 1, 0, 5, 0, 0, 0);
            closeTo(y, at);
            brings(y, 0, 9);
            closeTo(y, 12);
            due("9 in term " + at + ": the first year", y.due(0, 3), at == 3 ? 9 : 5);
            due("9 in term " + at + ": the second year", y.due(0, 7), at == 7 ? 9 : at == 3 || at == 8 ? 5 : 0);
            due("9 in term " + at + ": the third year", y.due(0, 11), at == 8 ? 0 : 5);
        }
    }

    private static void orderOfAClose() {
        sentence = "CLOSE: (2) ahead of (3): a BAG that is let out pays a DEBT";
        SongOffice x = office();
        x.bargain(RESERVE, 0, 1, 0, 1000, 1, 0, 0);
        brings(x, 0, 4);
        x.close();
        x.sent(0, 6);
        due("debt", x.hand(0, 1), 2 * COIN);
        brings(x, 0, 5);
        x.close();
        due("this TERM's bag pays nothing", x.hand(0, 1), 2 * COIN);
        x.close();
        due("the bag that is let out pays", x.hand(0, 1), 0);
        due("and the rest is due", x.due(0, 2), 3);
        sentence = "CLOSE: (3) ahead of (4): what is FILLED pays no DEBT";
        SongOffice y = office();
        y.bargain(FLOOR, 0, 1, 0, 5, 0, 0, 0);
        y.sent(0, 7);
        brings(y, 0, 2);
        closeTo(y, 4);
        due("filled", y.due(0, 3), 5);
        due("debt", y.hand(0, 1), 5 * COIN);
        sentence = "CLOSE: (1) ahead of (3): all LINES of a TERM come to one DUE";
        SongOffice z = new SongOffice();
        z.share(0, 0, 0, 500, 1, 500, NONE, 0);
        z.report(0, 1, 1, 1, true);
        z.close();
        due("three halves", z.due(0, 0), 1);
        due("the rest", z.hand(0, 0), 500_000);
        z.report(0, 1, 0, 0, true);
        z.close();
        due("the rest and a half", z.due(0, 1), 1);
    }

    private static void sentBack() {
        sentence = "SENT BACK: taken from its RESERVES' BAGS, of the lowest TERM first, then by number";
        long[][] want = {
            {1, 1, 2, 4, 8, 0}, {2, 0, 2, 4, 8, 0}, {4, 0, 0, 4, 8, 0}, {5, 0, 0, 3, 8, 0}, {8, 0, 0, 0, 8, 0},
            {9, 0, 0, 0, 7, 0}, {16, 0, 0, 0, 0, 0}, {17, 0, 0, 0, 0, 1}};
        for (long[] w : want) {
            SongOffice x = office();
            alone(x, 3, 0);
            x.bargain(RESERVE, 0, 1, 0, 1000, 8, 0, 0);
            x.bargain(RESERVE, 1, ALL, 0, 1000, 8, 0, 0);
            x.bargain(RESERVE, 0, 8, 0, 1000, 8, 0, 0);
            brings(x, 3, 2);
            brings(x, 0, 2);
            brings(x, 1, 5);
            x.close();
            brings(x, 3, 8);
            brings(x, 0, 4);
            x.close();
            due("debt by " + w[0], x.sent(0, (int) w[0]), w[5] * COIN);
            row("bags behind " + w[0], new long[] {x.has(0, 20), x.has(2, 20), x.has(0, 21), x.has(2, 21)},
                w[1] * COIN, w[2] * COIN, w[3] * COIN, w[4] * COIN);
            due("what they lack is DEBT", x.hand(0, 1), w[5] * COIN);
            due("another HAND's bag", x.has(1, 20), 5 * COIN);
            due("kept in all", x.has(0, 0) + x.has(2, 0), 16 * COIN);
            due("sent back", x.count(5), w[0] * COIN);
        }
        sentence = "sent: MITES of them that are DEBT by it";
        SongOffice y = office();
        y.bargain(RESERVE, 0, 1, 0, 1, 8, 0, 0);
        brings(y, 0, 1);
        y.close();
        due("a bag of a thousand mites", y.sent(0, 1), COIN - 1000);
        due("the next one wholly", y.sent(0, 2), 2 * COIN);
        due("together", y.hand(0, 1), 3 * COIN - 1000);
        sentence = "SENT BACK: the last MITE of it from the next TERM's BAG";
        SongOffice z = new SongOffice();
        z.share(0, 0, 0, 1, 1, 999, NONE, 0);
        z.share(1, 0, 0, 999, 1, 1, NONE, 0);
        z.bargain(SPLIT, 0, 1, 0, 1, 0, 0, 2);
        z.bargain(RESERVE, 0, 3, 0, 1000, 8, 0, 0);
        brings(z, 0, 1);
        brings(z, 1, 1);
        z.close();
        brings(z, 1, 1);
        z.close();
        due("a mite short of a coin", z.has(1, 20), 999_999);
        due("no debt", z.sent(0, 1), 0);
        due("the lowest", z.has(1, 20), 0);
        due("the next", z.has(1, 21), 998_999);
    }

    // ---- Terms, 3

    private static void mendedAndAnew() {
        sentence = "MENDED: a REPORT of a CLOSED TERM is another one";
        SongOffice x = office();
        brings(x, 2, 1);
        brings(x, 0, 1);
        x.tear(1);
        x.close();
        brings(x, 0, 1);
        due("THE TERM", told(x.mend(1, 0, 5, 0, 0, false)), NONE);
        due("the last that is CLOSED", told(x.mend(0, 0, 5, 0, 0, false)), 1);
        due("at its place", x.told(0, 0, 4), 1);
        due("not OPEN as before", x.told(0, 0, 3), 1);
        sentence = "also of a WORK that was OPEN, which is not OPEN there then";
        due("open", x.told(0, 2, 3), 5);
        x.mend(0, 2, 1, 2, 3, true);
        due("open no more", x.told(0, 2, 3), 2);
        due("at its place", x.told(0, 2, 4), 0);
        due("owed", x.hand(2, 4), 6 * COIN);
        due("the others are OPEN still", x.told(0, 1, 3), 4);
        sentence = "or that was not told, behind the others there";
        x.mend(0, 1, 1, 0, 0, false);
        due("behind the others", x.told(0, 1, 4), 2);
        due("told", x.told(0, 1, 3), 1);
        due("THE TERM is as it was", x.told(1, 1, 3), 0);
        due("nothing of it came in yet", x.count(3), COIN);
        orderOfMended();
        sentAnew();
        owedFor();
        anewFromNothing();
    }

    private static void anewFromNothing() {
        sentence = "ANEW: all CLOSED TERMS are reckoned from nothing, however often it is asked for";
        SongOffice x = new SongOffice();
        x.share(0, 0, 0, 900, 1, 100, NONE, 0);
        alone(x, 2, 2);
        x.bargain(ADVANCE, 0, 1, 0, 4, 0, 0, 0);
        x.bargain(RESERVE, 2, 4, 0, 500, 8, 0, 0);
        x.bargain(FLOOR, 2, 4, 0, 6, 0, 0, 0);
        x.sent(3, 2);
        brings(x, 0, 1);
        brings(x, 2, 4);
        closeTo(x, 4);
        for (int k = 0; k < 3; k++) {
            x.mend(0, 0, 5 + k, 0, 0, false);
            due("owed to 0", x.hand(0, 4), k == 0 ? 500_000 : k == 1 ? 1_400_000 : 2_300_000);
            due("owed to 1", x.hand(1, 4), (4 + k) * 100_000L);
            due("owed to 2", x.hand(2, 4), 0);
            due("owed to 3", x.hand(3, 4), 0);
            due("together", x.owe(), x.hand(0, 4) + x.hand(1, 4));
        }
        due("settle", x.settle(), 2);
        row("ADVANCE", new long[] {x.has(0, 0), x.has(0, 1), x.has(0, 2)}, 4 * COIN, 6_300_000, 0);
        row("RESERVE", new long[] {x.has(1, 0), x.has(1, 1), x.has(1, 2)}, 2 * COIN, 4 * COIN, 2 * COIN);
        row("FLOOR", new long[] {x.hand(2, 3), x.count(4)}, 4, 4);
        due("came in", x.count(3), 11 * COIN);
        due("debt", x.hand(3, 1), 2 * COIN);
        sentence = "SETTLE: the PURSE is more by what is OWED, to what is there";
        due("purse of 0", x.hand(0, 0), 2_300_000);
        due("purse of 1: 100,000 were there", x.hand(1, 0), 700_000);
    }

    private static void orderOfMended() {
        sentence = "a mended REPORT comes in at its place, another behind the others";
        for (int told = 0; told < 2; told++) {
            SongOffice x = new SongOffice();
            alone(x, 0, 0);
            alone(x, 1, 0);
            x.bargain(STEP, 0, 3, 0, 1000, 4, 500, 5);
            x.bargain(ADVANCE, 0, 1, 0, 100, 0, 0, 0);
            if (told == 1) {
                brings(x, 0, 0);
            }
            brings(x, 1, 4);
            x.close();
            x.mend(0, 0, 4, 0, 0, false);
            due("the advance keeps what the step leaves", x.hand(0, 4), told == 1 ? 2 * COIN : 0);
            due("the taker", x.hand(5, 4), 2 * COIN);
        }
    }

    private static void sentAnew() {
        sentence = "SENT BACK as it came (by THE TERM at which it came, ahead of its CLOSE; of THE TERM too)";
        for (int at = 0; at <= 2; at++) {
            SongOffice x = office();
            x.bargain(RESERVE, 0, 1, 0, 1000, 1, 0, 0);
            brings(x, 0, 2);
            for (int t = 0; t < 2; t++) {
                if (t == at) {
                    x.sent(0, 3);
                }
                x.close();
            }
            if (at == 2) {
                x.sent(0, 3);
            }
            due("nothing owed", x.owe(), 0);
            x.mend(0, 0, 7, 0, 0, false);
            due("owed, sent at " + at, x.hand(0, 4), 5 * COIN);
            due("settle", x.settle(), 1);
            due("debt, sent at " + at, x.hand(0, 1), at == 2 ? 3 * COIN : 0);
            due("bag", x.has(0, 20), 0);
            due("purse", x.hand(0, 0), at == 2 ? 5 * COIN : 4 * COIN);
        }
    }

    private static void owedFor() {
        sentence = "OWED: what ANEW its DUES, PURSE, less DEBT, come to, less what they come to as it stands";
        int[][] mends = {{4, -1}, {5, 0}, {6, 1}};
        for (int[] m : mends) {
            SongOffice x = office();
            brings(x, 0, 5);
            x.close();
            x.mend(0, 0, m[0], 0, 0, false);
            due("mended to " + m[0], x.hand(0, 4), m[1] * COIN);
            due("all together", x.owe(), m[1] * COIN);
            sentence = "settle: how many HANDS were OWED something (not 0)";
            due("settle, mended to " + m[0], x.settle(), Math.abs(m[1]));
            due("the purse", x.hand(0, 0), m[1] * COIN);
            due("how often", x.count(7), 1);
            sentence = "OWED: what ANEW its DUES, PURSE, less DEBT, come to, less what they come to as it stands";
        }
        sentence = "What is OWED to all HANDS together: more for one, less for another";
        SongOffice y = new SongOffice();
        y.share(0, 0, 0, 1000, NONE, 0, NONE, 0);
        y.share(0, 60, 1, 1000, NONE, 0, NONE, 0);
        y.report(0, 5, 0, 0, true);
        y.close();
        y.mend(0, 0, 0, 0, 5, true);
        due("less", y.hand(0, 4), -5 * COIN);
        due("more", y.hand(1, 4), 5 * COIN);
        due("together", y.owe(), 0);
        due("settle", y.settle(), 2);
        sentence = "SHARES and BARGAINS as told: one told since does not reach back";
        SongOffice z = office();
        brings(z, 0, 5);
        z.close();
        z.bargain(SPLIT, 0, 1, 90, 1000, 0, 0, 5);
        aloneFrom(z, 0, 90, 6);
        z.mend(0, 0, 8, 0, 0, false);
        due("owed to its hand", z.hand(0, 4), 3 * COIN);
        due("to the taker", z.hand(5, 4), 0);
        due("to the new one", z.hand(6, 4), 0);
    }

    private static void settles() {
        sentence = "SETTLE: PURSE is more by what is OWED, less by what its DEBT falls, more by what that rises";
        long[][] want = {{2, -2, 6}, {4, 0, 5}, {6, 2, 4}};
        for (long[] w : want) {
            SongOffice x = office();
            x.bargain(RESERVE, 0, 1, 0, 500, 8, 0, 0);
            brings(x, 0, 4);
            x.close();
            x.sent(0, 7);
            due("debt", x.hand(0, 1), 5 * COIN);
            x.mend(0, 0, (int) w[0], 0, 0, false);
            due("owed", x.hand(0, 4), w[1] * COIN);
            x.settle();
            due("DEBTS are those of ANEW", x.hand(0, 1), w[2] * COIN);
            due("purse", x.hand(0, 0), (w[1] + w[2] - 5) * COIN);
            due("nothing owed", x.hand(0, 4), 0);
            due("DUES stay", x.due(0, 0), 2);
        }
        sentence = "what BARGAINS have (kept, came, BAGS), what came in and what was FILLED are those of ANEW";
        SongOffice y = office();
        y.bargain(ADVANCE, 0, 1, 0, 5, 0, 0, 0);
        y.bargain(RESERVE, 1, 2, 0, 500, 8, 0, 0);
        y.bargain(FLOOR, 2, 4, 0, 6, 0, 0, 0);
        for (int w = 0; w < 3; w++) {
            brings(y, w, 4);
        }
        closeTo(y, 4);
        for (int w = 0; w < 3; w++) {
            y.mend(0, w, 8, 0, 0, false);
        }
        row("ahead", new long[] {y.has(0, 0), y.has(0, 1), y.has(0, 2), y.has(1, 20)},
            4 * COIN, 4 * COIN, COIN, 2 * COIN);
        row("ahead", new long[] {y.count(3), y.hand(2, 3), y.count(4)}, 12 * COIN, 2, 2);
        due("hands", y.settle(), 3);
        row("behind", new long[] {y.has(0, 0), y.has(0, 1), y.has(0, 2), y.has(1, 20)},
            5 * COIN, 8 * COIN, 0, 4 * COIN);
        row("behind", new long[] {y.count(3), y.hand(2, 3), y.count(4)}, 24 * COIN, 0, 0);
        row("purses", new long[] {y.hand(0, 0), y.hand(1, 0), y.hand(2, 0)}, 3 * COIN, 2 * COIN, 2 * COIN);
        due("DUES stay", y.hand(2, 2), 6);
        lastBargains();
        sentence = "settle: all twelve HANDS";
        SongOffice z = new SongOffice();
        for (int h = 0; h < 12; h++) {
            alone(z, h, h);
        }
        z.close();
        due("none", z.settle(), 0);
        for (int h = 0; h < 12; h++) {
            z.mend(0, h, 1, 0, 0, false);
        }
        due("twelve", z.settle(), 12);
        due("none again", z.settle(), 0);
        due("how often SETTLED", z.count(7), 3);
    }

    private static void lastBargains() {
        sentence = "24 BARGAINS: the last is as the first";
        SongOffice x = office();
        for (int n = 0; n < 22; n++) {
            x.bargain(FLOOR, 3, 1, 3599, 1, 0, 0, 0);
        }
        due("the 23rd", x.bargain(RESERVE, 0, 1, 0, 500, 8, 0, 0), 22);
        due("the 24th", x.bargain(RESERVE, 0, 1, 0, 500, 8, 0, 0), 23);
        brings(x, 0, 4);
        x.close();
        row("bags", new long[] {x.has(22, 20), x.has(22, 2), x.has(22, 60), x.has(23, 20), x.has(23, 2), x.has(23, 60)},
            2 * COIN, 2 * COIN, 0, COIN, COIN, 0);
        x.mend(0, 0, 8, 0, 0, false);
        due("settle", x.settle(), 1);
        row("bags of ANEW", new long[] {x.has(22, 20), x.has(22, 2), x.has(23, 20), x.has(23, 2)},
            4 * COIN, 4 * COIN, 2 * COIN, 2 * COIN);
        due("sent", x.sent(0, 5), 0);
        due("of the 23rd first", x.has(22, 20), 0);
        due("then of the 24th", x.has(23, 20), COIN);
        closeTo(x, 40);
        due("due at once, OWED, let out", x.hand(0, 2), 1 + 1 + 1);
        due("sent behind the last CLOSE", x.sent(0, 1), COIN);
        due("22 floors of one HAND", x.hand(3, 3), 1);
        sentence = "DUES of the YEAR: the last one, beside other HANDS' dues of TERM 0";
        SongOffice y = office();
        for (int h = 0; h < 12; h++) {
            y.bargain(FLOOR, h, 1, 3240, 5, 0, 0, 0);
        }
        for (int w = 0; w < 3; w++) {
            brings(y, w, 9);
        }
        closeTo(y, 40);
        for (int h = 0; h < 12; h++) {
            due("due of hand " + h, y.due(h, 39), 5);
        }
    }

    // ---- Promises 2 and 3

    private static void shareArguments() {
        sentence = "share: no such WORK";
        range("work", BUSY, (x, v) -> aloneFrom(x, v, 200, 5), 0, 11);
        sentence = "share: no such HANDS";
        range("a", BUSY, (x, v) -> aloneFrom(x, 4, 200, v), 0, 11);
        range("b", BUSY, (x, v) -> x.share(4, 200, v == 11 ? 0 : 11, 600, v, 400, NONE, 0), 0, 11);
        range("c", BUSY, (x, v) -> x.share(4, 200, 5, 600, 6, 300, v, 100), 0, 11);
        sentence = "share: b, c NONE: none; c NONE if b is";
        taken("b and c none", BUSY, (x, v) -> x.share(4, 200, 5, 1000, NONE, 0, v, 0), NONE);
        taken("c none", BUSY, (x, v) -> x.share(4, 200, 5, 600, 6, 400, v, 0), NONE);
        refused("c without b", BUSY, (x, v) -> x.share(4, 200, 5, 600, NONE, 0, v, 400), 6);
        refused("a none", BUSY, (x, v) -> x.share(4, 200, v, 0, 5, 600, 6, 400), NONE);
        refused("all none", BUSY, (x, v) -> x.share(4, 200, v, 0, v, 0, v, 0), NONE);
        sentence = "share: two alike";
        taken("three hands", BUSY, (x, v) -> x.share(4, 200, v, 600, 6, 300, 7, 100), 5);
        refused("a and b", BUSY, (x, v) -> x.share(4, 200, v, 600, v, 300, 7, 100), 5);
        refused("a and c", BUSY, (x, v) -> x.share(4, 200, v, 600, 6, 300, v, 100), 5);
        refused("b and c", BUSY, (x, v) -> x.share(4, 200, 5, 600, v, 300, v, 100), 7);
        refused("a and b, c none", BUSY, (x, v) -> x.share(4, 200, v, 600, v, 400, NONE, 0), 5);
        shareThousandths();
        shareDays();
        sentence = "share: it has 6";
        Past five = x -> {
            for (int k = 0; k < 5; k++) {
                due("sets", aloneFrom(x, 4, k, k), k + 1);
            }
        };
        taken("a sixth", five, (x, v) -> aloneFrom(x, 4, v, 5), 5);
        Past six = x -> {
            five.make(x);
            due("sets", aloneFrom(x, 4, 5, 5), 6);
        };
        refused("a seventh", six, (x, v) -> aloneFrom(x, 4, v, 6), 6, 3599);
        taken("another WORK's first", six, (x, v) -> aloneFrom(x, 5, v, 6), 0);
    }

    private static void shareThousandths() {
        sentence = "share: thousandths (1 to 1000 each, 0 of none; not 1000 together)";
        range("pa of two", BUSY, (x, v) -> x.share(4, 200, 5, v, 6, 1000 - v, NONE, 0), 1, 999);
        range("pb of two", BUSY, (x, v) -> x.share(4, 200, 5, 1000 - v, 6, v, NONE, 0), 1, 999);
        range("pb of three", BUSY, (x, v) -> x.share(4, 200, 5, 1, 6, v, 7, 999 - v), 1, 998);
        range("pc of three", BUSY, (x, v) -> x.share(4, 200, 5, 999 - v, 6, 1, 7, v), 1, 998);
        range("pa alone", BUSY, (x, v) -> x.share(4, 200, 5, v, NONE, 0, NONE, 0), 1000, 1000);
        range("three together", BUSY, (x, v) -> x.share(4, 200, 5, 333, 6, 333, 7, v), 334, 334);
        range("pb of none", BUSY, (x, v) -> x.share(4, 200, 5, 1000, NONE, v, NONE, 0), 0, 0);
        range("pc of none", BUSY, (x, v) -> x.share(4, 200, 5, 600, 6, 400, NONE, v), 0, 0);
        refused("pb of none to 1000", BUSY, (x, v) -> x.share(4, 200, 5, v, NONE, 1000 - v, NONE, 0), 1, 999, 1001);
        refused("pc of none to 1000", BUSY, (x, v) -> x.share(4, 200, 5, 500, 6, 500 - v, NONE, v), 1, 499, -1);
        refused("1000 by a wrap-around", BUSY, (x, v) -> x.share(4, 200, 5, v, 6, v, 7, 1002), HIGH);
        refused("1000 by a wrap-around", BUSY, (x, v) -> x.share(4, 200, 5, v, 6, v, 7, 1000), LOW);
        refused("1000 by one below 0", BUSY, (x, v) -> x.share(4, 200, 5, 1000, 6, -v, 7, v), 1, 999, 1000);
    }

    private static void shareDays() {
        sentence = "share: a DAY ahead of THE TERM's first, or above 3599";
        range("day in term 0", EMPTY, (x, v) -> aloneFrom(x, 4, v, 5), 0, 3599);
        range("day in term 2", BUSY, (x, v) -> aloneFrom(x, 4, v, 5), 180, 3599);
        range("day in term 39", closed(39), (x, v) -> aloneFrom(x, 4, v, 5), 3510, 3599);
        refused("day with no term", closed(40), (x, v) -> aloneFrom(x, 4, v, 5), 0, 3510, 3599, 3600, 3689);
        sentence = "share: a DAY not behind the set before";
        Past one = x -> {
            BUSY.make(x);
            aloneFrom(x, 4, 300, 5);
        };
        range("day behind 300", one, (x, v) -> aloneFrom(x, 4, v, 6), 301, 3599);
        refused("the same day", one, (x, v) -> aloneFrom(x, 4, v, 6), 300);
        taken("another WORK", one, (x, v) -> aloneFrom(x, 5, v, 6), 180, 300);
        Past two = x -> {
            one.make(x);
            aloneFrom(x, 4, 302, 6);
        };
        refused("between two sets", two, (x, v) -> aloneFrom(x, 4, v, 7), 301, 302);
        taken("behind both", two, (x, v) -> aloneFrom(x, 4, v, 7), 303);
        Past old = x -> {
            aloneFrom(x, 4, 10, 5);
            x.close();
        };
        refused("behind the set before, ahead of THE TERM", old, (x, v) -> aloneFrom(x, 4, v, 6), 11, 89);
        taken("behind both", old, (x, v) -> aloneFrom(x, 4, v, 6), 90);
        sentence = "share: how many such sets it has";
        SongOffice x = new SongOffice();
        for (int k = 1; k <= 6; k++) {
            due("sets of 0", aloneFrom(x, 0, k, 0), k);
            due("sets of 11", x.share(11, 3590 + k, 0, 1, 1, 998, 2, 1), k);
        }
    }

    private static void bargainArguments() {
        sentence = "bargain: no such kind";
        range("kind", BUSY, (x, v) -> x.bargain(v, 0, 1, 180, 1, 1, 1, 1), 0, 4);
        Past full = x -> {
            for (int n = 0; n < 24; n++) {
                split(x, n);
            }
        };
        Past one = x -> {
            for (int n = 0; n < 23; n++) {
                split(x, n);
            }
        };
        for (int kind = SPLIT; kind <= RESERVE; kind++) {
            int k = kind;
            sentence = "bargain: no such HAND, WORKS, kind " + kind;
            range("hand", BUSY, (x, v) -> x.bargain(k, v, 1, 180, 1, 1, 1, 5), 0, 11);
            range("works", BUSY, (x, v) -> x.bargain(k, 0, v, 180, 1, 1, 1, 5), 1, 4095);
            sentence = "bargain: a DAY ahead of THE TERM's first or above 3599, kind " + kind;
            range("day in term 0", EMPTY, (x, v) -> x.bargain(k, 0, 1, v, 1, 1, 1, 5), 0, 3599);
            range("day in term 2", BUSY, (x, v) -> x.bargain(k, 0, 1, v, 1, 1, 1, 5), 180, 3599);
            range("day in term 39", closed(39), (x, v) -> x.bargain(k, 0, 1, v, 1, 1, 1, 5), 3510, 3599);
            refused("day with no term", closed(40), (x, v) -> x.bargain(k, 0, 1, v, 1, 1, 1, 5), 0, 3599, 3600, 3689);
            sentence = "bargain: 24 are there, kind " + kind;
            taken("the 24th", one, (x, v) -> x.bargain(k, 0, v, 0, 1, 1, 1, 5), 1);
            refused("the 25th", full, (x, v) -> x.bargain(k, 0, v, 0, 1, 1, 1, 5), 1);
        }
        bargainTerms();
    }

    private static void bargainTerms() {
        sentence = "bargain: x: SPLIT, STEP, RESERVE a part 1 to 1000";
        for (int kind : new int[] {SPLIT, STEP, RESERVE}) {
            range("part of " + kind, BUSY, (x, v) -> x.bargain(kind, 0, 1, 180, v, 1, 1, 5), 1, 1000);
        }
        sentence = "bargain: x: ADVANCE, FLOOR a sum 1 to 1,000,000";
        for (int kind : new int[] {ADVANCE, FLOOR}) {
            range("sum of " + kind, BUSY, (x, v) -> x.bargain(kind, 0, 1, 180, v, 1, 1, 5), 1, MOST);
        }
        sentence = "bargain: y: STEP a sum likewise; RESERVE terms 1 to 8";
        range("sum", BUSY, (x, v) -> x.bargain(STEP, 0, 1, 180, 1, v, 1, 5), 1, MOST);
        range("terms", BUSY, (x, v) -> x.bargain(RESERVE, 0, 1, 180, 1, v, 1, 5), 1, 8);
        sentence = "bargain: z: STEP other, 0 to 1000";
        range("other", BUSY, (x, v) -> x.bargain(STEP, 0, 1, 180, 1, 1, v, 5), 0, 1000);
        sentence = "bargain: taker: SPLIT, STEP another HAND";
        for (int kind : new int[] {SPLIT, STEP}) {
            range("taker from 5", BUSY, (x, v) -> x.bargain(kind, 5, 1, 180, 1, 1, 1, v), 0, 11);
            refused("itself", BUSY, (x, v) -> x.bargain(kind, v, 1, 180, 1, 1, 1, v), 0, 5, 11);
            taken("its neighbours", BUSY, (x, v) -> x.bargain(kind, 5, 1, 180, 1, 1, 1, v), 4, 6);
            range("taker from 0", BUSY, (x, v) -> x.bargain(kind, 0, 1, 180, 1, 1, 1, v), 1, 11);
            range("taker from 11", BUSY, (x, v) -> x.bargain(kind, 11, 1, 180, 1, 1, 1, v), 0, 10);
        }
        sentence = "bargain: What a kind has not is not looked at";
        int[] any = {LOW, -1, 0, 1001, HIGH};
        taken("SPLIT y, z", BUSY, (x, v) -> x.bargain(SPLIT, 0, 1, 180, 1, v, v, 5), any);
        for (int kind : new int[] {ADVANCE, FLOOR}) {
            taken("y, z, taker of " + kind, BUSY, (x, v) -> x.bargain(kind, 0, 1, 180, 1, v, v, v), any);
        }
        taken("RESERVE z, taker", BUSY, (x, v) -> x.bargain(RESERVE, 0, 1, 180, 1, 1, v, v), any);
        sentence = "bargain: its number";
        taken("the next", BUSY, (x, v) -> x.bargain(v, 0, 1, 180, 1, 1, 1, 5) == 5 ? 1 : NONE, 0, 1, 2, 3, 4);
    }

    // ---- Promises 4 to 7 and 12 to 14

    private static void reportArguments() {
        sentence = "report: no such WORK, it has no SHARES";
        Past all = x -> {
            for (int w = 0; w < 12; w++) {
                alone(x, w, w);
            }
        };
        range("work", all, (x, v) -> told(brings(x, v, 1)), 0, 11);
        refused("works without SHARES", BUSY, (x, v) -> told(brings(x, v, 1)), 2, 10);
        taken("works with SHARES", BUSY, (x, v) -> told(brings(x, v, 1)), 0, 1, 11);
        sentence = "report: it has SHARES from its first set on, of whatever DAY";
        taken("a set of the last day", EMPTY, (x, v) -> {
            aloneFrom(x, 4, 3599, v);
            return told(brings(x, 4, 1));
        }, 3);
        sentence = "report: a, b, c are not 0 to 1,000,000";
        range("a in all", BUSY, (x, v) -> told(brings(x, 1, v)), 0, MOST);
        range("a by DAYS", BUSY, (x, v) -> told(x.report(1, v, 1, 1, true)), 0, MOST);
        range("b by DAYS", BUSY, (x, v) -> told(x.report(1, 1, v, 1, true)), 0, MOST);
        range("c by DAYS", BUSY, (x, v) -> told(x.report(1, 1, 1, v, true)), 0, MOST);
        range("a in place of one told", BUSY, (x, v) -> told(brings(x, 0, v)), 0, MOST);
        sentence = "report: not told by DAYS: b, c not looked at";
        taken("b, c", BUSY, (x, v) -> told(x.report(1, 1, v, v, false)), LOW, -1, MOST + 1, HIGH);
        SongOffice y = office();
        y.report(0, 2, MOST, -5, false);
        row("told", new long[] {y.told(0, 0, 0), y.told(0, 0, 1), y.told(0, 0, 2), y.told(0, 0, 3)}, 2, 0, 0, 1);
        y.close();
        due("only a came in", y.count(3), 2 * COIN);
        sentence = "report: in place of one told before, at its place in the order";
        SongOffice z = office();
        z.report(1, 1, 2, 3, true);
        brings(z, 0, 4);
        due("in all then", told(z.report(1, 9, 8, 7, false)), 1);
        row("told", new long[] {z.told(0, 1, 0), z.told(0, 1, 1), z.told(0, 1, 2), z.told(0, 1, 3), z.told(0, 1, 4)},
            9, 0, 0, 1, 0);
        z.close();
        due("came in", z.count(3), 13 * COIN);
        due("first line", z.line(0, 3), 9 * COIN);
        sentence = "report: there is no TERM";
        taken("in term 39", closed(39), (x, v) -> told(brings(x, v, 1)), 0);
        refused("behind it", closed(40), (x, v) -> told(brings(x, v, 1)), 0);
        sentence = "mend: false: as report(), or that TERM isn't CLOSED";
        range("term in 2", BUSY, (x, v) -> told(x.mend(v, 0, 1, 0, 0, false)), 0, 1);
        refused("term in 0", EMPTY, (x, v) -> told(x.mend(v, 0, 1, 0, 0, false)), -1, 0, 1);
        range("term at the end", closed(40), (x, v) -> told(x.mend(v, 0, 1, 0, 0, false)), 0, 39);
        mendArguments(all);
    }

    private static void mendArguments(Past all) {
        sentence = "mend: false: as report()";
        Past mendable = x -> {
            all.make(x);
            x.close();
        };
        range("work", mendable, (x, v) -> told(x.mend(0, v, 1, 0, 0, false)), 0, 11);
        refused("works without SHARES", BUSY, (x, v) -> told(x.mend(1, v, 1, 0, 0, false)), 2, 10);
        range("a in all", BUSY, (x, v) -> told(x.mend(1, 1, v, 0, 0, false)), 0, MOST);
        range("a by DAYS", BUSY, (x, v) -> told(x.mend(1, 1, v, 1, 1, true)), 0, MOST);
        range("b by DAYS", BUSY, (x, v) -> told(x.mend(1, 1, 1, v, 1, true)), 0, MOST);
        range("c by DAYS", BUSY, (x, v) -> told(x.mend(1, 1, 1, 1, v, true)), 0, MOST);
        range("a of one OPEN", BUSY, (x, v) -> told(x.mend(0, 11, v, 0, 0, false)), 0, MOST);
        taken("b, c in all", BUSY, (x, v) -> told(x.mend(1, 1, 1, v, v, false)), LOW, -1, MOST + 1, HIGH);
    }

    private static void otherArguments() {
        sentence = "tear: no such n (0 to 12; NONE: missing)";
        range("n", BUSY, (x, v) -> told(x.tear(v)), NONE, 12);
        range("n on a whole one", closed(1), (x, v) -> told(x.tear(v)), NONE, 12);
        sentence = "tear: no TERM";
        taken("in term 39", closed(39), (x, v) -> told(x.tear(v)), NONE, 0, 12);
        refused("behind it", closed(40), (x, v) -> told(x.tear(v)), NONE, 0, 12);
        sentence = "sent: no such HAND, COINS";
        range("hand", BUSY, (x, v) -> x.sent(v, 1), 0, 11);
        range("coins", BUSY, (x, v) -> x.sent(5, v), 1, MOST);
        range("coins of one with bags", BUSY, (x, v) -> x.sent(0, v), 1, MOST);
        sentence = "sent: 60 were told";
        Past nearly = x -> {
            for (int k = 0; k < 59; k++) {
                due("debt", x.sent(k % 12, 1), COIN);
            }
        };
        taken("the 60th", nearly, (x, v) -> x.sent(v, 1), 0, 11);
        Past full = x -> {
            nearly.make(x);
            x.sent(0, 1);
        };
        refused("the 61st", full, (x, v) -> x.sent(v, 1), 0, 11);
        SongOffice y = after(full);
        due("60 coins", y.count(5), 60 * COIN);
        y.close();
        due("in another TERM", y.sent(0, 1), NONE);
        sentence = "sent: refused ones are not told";
        SongOffice z = new SongOffice();
        for (int k = 0; k < 60; k++) {
            due("refused", z.sent(12, 1), NONE);
            due("told", z.sent(0, 1), COIN);
        }
        due("the 61st", z.sent(0, 1), NONE);
        sentence = "close: there is none";
        taken("the last", closed(39), (x, v) -> x.close() == v ? 1 : NONE, 39);
        refused("none", closed(40), (x, v) -> x.close(), 0);
    }

    // ---- Promises 8 to 11, 15 and 16

    private static void questions() {
        sentence = "due: A HAND's DUE of a CLOSED TERM; NONE: none such";
        range("hand", BUSY, (x, v) -> x.due(v, 1), 0, 11);
        range("term", BUSY, (x, v) -> x.due(0, v), 0, 1);
        range("term at the end", closed(40), (x, v) -> x.due(0, v), 0, 39);
        refused("term of a new one", EMPTY, (x, v) -> x.due(0, v), -1, 0, 1);
        sentence = "hand: NONE for others";
        range("hand", BUSY, (x, v) -> x.hand(v, 2), 0, 11);
        range("what", BUSY, (x, v) -> x.hand(2, v), 0, 4);
        sentence = "hand: also PURSE, OWED can be that";
        SongOffice less = new SongOffice();
        less.share(0, 0, 0, 999, 1, 1, NONE, 0);
        less.share(1, 0, 0, 1, 1, 999, NONE, 0);
        less.share(2, 0, 0, 1, 1, 999, NONE, 0);
        less.bargain(SPLIT, 0, 2, 0, 1, 0, 0, 2);
        less.bargain(RESERVE, 0, 4, 0, 999, 8, 0, 0);
        for (int w = 0; w < 3; w++) {
            brings(less, w, 1);
        }
        less.close();
        due("999,000 and 999 and 1", less.due(0, 0), 1);
        less.mend(0, 2, 0, 0, 0, false);
        due("owed", less.hand(0, 4), -1);
        due("settle", less.settle(), 2);
        due("purse", less.hand(0, 0), -1);
        less.close();
        due("no due of a mite below 0", less.due(0, 1), 0);
        due("purse", less.hand(0, 0), -1);
        sentence = "has: no such BARGAIN";
        range("number", BUSY, (x, v) -> x.has(v, 0), 0, 4);
        refused("number of a new one", EMPTY, (x, v) -> x.has(v, 0), -1, 0, 1);
        refused("other questions", BUSY, (x, v) -> x.has(5, v), LOW, -1, 1, 2, 3, 20, 60, HIGH);
        bags();
        sentence = "told: Of a WORK in a CLOSED TERM or THE TERM; NONE for others";
        range("term", BUSY, (x, v) -> x.told(v, 0, 0), 0, 2);
        range("term of a new one", EMPTY, (x, v) -> x.told(v, 0, 0), 0, 0);
        range("term at the last", closed(39), (x, v) -> x.told(v, 0, 0), 0, 39);
        range("term at the end", closed(40), (x, v) -> x.told(v, 0, 0), 0, 39);
        range("work", BUSY, (x, v) -> x.told(1, v, 3), 0, 11);
        range("what", BUSY, (x, v) -> x.told(2, 0, v), 0, 4);
        sentence = "told: 4 its place in the order (NONE)";
        refused("not told", BUSY, (x, v) -> x.told(2, v, 4), 1, 11);
        taken("told", BUSY, (x, v) -> x.told(2, v, 4), 0);
        toldKinds();
        sentence = "count: NONE for others";
        range("what", BUSY, (x, v) -> x.count(v), 0, 7);
        sentence = "count: 6: 12: not; NONE: there is no TERM";
        due("in term 39", after(closed(39)).count(6), 12);
        due("behind it", after(closed(40)).count(6), NONE);
    }

    private static void bags() {
        sentence = "has: 20 + t: the BAG of TERM t. 0 for others";
        SongOffice x = office();
        x.bargain(RESERVE, 0, 1, 0, 500, 8, 0, 0);
        x.bargain(ADVANCE, 1, 2, 0, 9, 0, 0, 0);
        x.bargain(SPLIT, 2, 4, 0, 500, 0, 0, 5);
        for (int w = 0; w < 3; w++) {
            brings(x, w, 2);
        }
        x.close();
        row("RESERVE", new long[] {x.has(0, 2), x.has(0, 3), x.has(0, 19), x.has(0, 20), x.has(0, 21)},
            COIN, 0, 0, COIN, 0);
        row("ADVANCE", new long[] {x.has(1, 0), x.has(1, 2), x.has(1, 3), x.has(1, 20)}, 2 * COIN, 7 * COIN, 0, 0);
        row("SPLIT", new long[] {x.has(2, 0), x.has(2, 2), x.has(2, 20)}, COIN, 0, 0);
        closeTo(x, 39);
        brings(x, 0, 4);
        x.close();
        row("the last TERM", new long[] {x.has(0, 20), x.has(0, 58), x.has(0, 59), x.has(0, 60), x.has(0, 2)},
            0, 0, 2 * COIN, 0, 2 * COIN);
        for (int what : new int[] {LOW, -1, 3, 19, 60, 99, HIGH}) {
            due("other " + what, x.has(0, what), 0);
        }
    }

    private static void toldKinds() {
        sentence = "told: 3: 0 not told, 1 told, 2 told by DAYS, 4 and more if it is OPEN (4 the more)";
        SongOffice x = office();
        brings(x, 0, 1);
        x.report(1, 1, 2, 3, true);
        row("whole", new long[] {x.told(0, 0, 3), x.told(0, 1, 3), x.told(0, 2, 3), x.told(0, 11, 3)}, 1, 2, 0, 0);
        x.tear(0);
        row("torn", new long[] {x.told(0, 0, 3), x.told(0, 1, 3), x.told(0, 2, 3), x.told(0, 11, 3)}, 5, 6, 4, 4);
        row("what was told", new long[] {x.told(0, 1, 0), x.told(0, 1, 1), x.told(0, 1, 2)}, 1, 2, 3);
        due("its place", x.told(0, 1, 4), 1);
        x.close();
        row("closed", new long[] {x.told(0, 0, 3), x.told(0, 1, 3), x.told(0, 2, 3), x.told(0, 11, 3)}, 5, 6, 4, 4);
        row("THE TERM", new long[] {x.told(1, 0, 3), x.told(1, 1, 3), x.told(1, 2, 3), x.told(1, 11, 3)}, 0, 0, 0, 0);
        x.mend(0, 0, 0, 0, 0, true);
        x.mend(0, 2, 0, 0, 0, false);
        row("mended", new long[] {x.told(0, 0, 3), x.told(0, 1, 3), x.told(0, 2, 3), x.told(0, 11, 3)}, 2, 6, 1, 4);
    }

    private static void manyLines() {
        sentence = "line: 600 at most are told; count: 2 LINES of the latest CLOSE (all)";
        for (int all = 599; all <= 601; all++) {
            SongOffice x = new SongOffice();
            for (int w = 0; w < 11; w++) {
                x.share(w, 0, 0, 400, 1, 300, 2, 300);
                x.report(w, 10, 20, 30, true);
            }
            alone(x, 11, 0);
            brings(x, 11, 50);
            for (int n = 0; n < 15; n++) {
                x.bargain(SPLIT, n % 3, 2047, 0, 1, 0, 0, 3);
            }
            // 99 LINES and 15 times 33 of WORKS 0 to 10; of WORK 11 one and one for each of these.
            for (int n = 595; n < all; n++) {
                x.bargain(SPLIT, 0, 2048, 0, 1, 0, 0, 4);
            }
            x.close();
            due("all", x.count(2), all);
            due("line 594", x.line(594, 0), 11);
            due("line 598", x.line(598, 1), 4);
            due("line 599 of " + all, x.line(599, 1), all > 599 ? 4 : NONE);
            due("line 599 of " + all, x.line(599, 3) == NONE ? 1 : 0, all > 599 ? 0 : 1);
            due("line 600 of " + all, x.line(600, 1), NONE);
            due("line 600 of " + all, x.line(600, 3), NONE);
            due("what is not told came in all the same", x.has(15, 1), 50 * COIN);
        }
        sentence = "line: LINE i of the latest CLOSE; NONE for others";
        range("line", x -> {
            BUSY.make(x);
            x.close();
        }, (x, v) -> x.line(v, 3), 0, 8);
        range("what", x -> {
            BUSY.make(x);
            x.close();
        }, (x, v) -> v == 2 ? x.line(1, 2) : x.line(0, v), 0, 4);
        refused("line of a new one", EMPTY, (x, v) -> x.line(v, 0), -1, 0, 1);
        due("the lines of BUSY", after(x -> {
            BUSY.make(x);
            x.close();
        }).count(2), 9);
    }

    private static void largest() {
        sentence = "the largest of all: no sum wraps around";
        SongOffice x = new SongOffice();
        for (int w = 0; w < 10; w++) {
            alone(x, w, 0);
        }
        for (int t = 0; t < 40; t++) {
            for (int w = 0; w < 10; w++) {
                x.report(w, MOST, MOST, MOST, true);
            }
            x.close();
        }
        due("due", x.due(0, 39), 30_000_000);
        due("dues", x.hand(0, 2), 1_200_000_000L);
        due("came in", x.count(3), 1_200_000_000L * COIN);
        SongOffice y = new SongOffice();
        for (int w = 0; w < 10; w++) {
            alone(y, w, 0);
        }
        closeTo(y, 39);
        for (int t = 0; t < 39; t++) {
            for (int w = 0; w < 10; w++) {
                y.mend(t, w, MOST, MOST, MOST, true);
            }
        }
        due("owed", y.owe(), 1_170_000_000L * COIN);
        due("settle", y.settle(), 1);
        due("purse", y.hand(0, 0), 1_170_000_000L * COIN);
        y.close();
        due("due at once", y.due(0, 39), 1_170_000_000);
        SongOffice z = office();
        z.bargain(STEP, 0, 1, 0, 1000, MOST, 999, 5);
        z.bargain(ADVANCE, 5, 1, 0, MOST, 0, 0, 0);
        for (int k = 0; k < 60; k++) {
            due("debt", z.sent(0, MOST), MOST * COIN);
        }
        due("all of it", z.hand(0, 1), 60 * MOST * COIN);
        due("sent back", z.count(5), 60 * MOST * COIN);
        z.report(0, MOST, MOST, MOST, true);
        z.close();
        due("step", z.has(0, 0), 2_998_000 * COIN);
        due("advance", z.has(1, 0), MOST * COIN);
        due("advance is back", z.has(1, 2), 0);
        due("debt", z.hand(0, 1), (60L * MOST - 2000) * COIN);
        due("taker", z.due(5, 0), 1_998_000);
    }

    private static void ownMemory() {
        sentence = "All memory is the office's own";
        List<Long> fresh = state(new SongOffice());
        List<Long> busy = state(after(BUSY));
        SongOffice idle = new SongOffice();
        SongOffice one = after(BUSY);
        SongOffice other = after(BUSY);
        other.tear(0);
        other.mend(0, 0, 99, 0, 0, false);
        other.settle();
        other.close();
        List<Long> left = state(one);
        for (int i = 0; i < busy.size(); i++) {
            due("answer " + i + " beside another office", left.get(i), busy.get(i));
        }
        left = state(idle);
        for (int i = 0; i < fresh.size(); i++) {
            due("answer " + i + " of a new one made ahead of them", left.get(i), fresh.get(i));
        }
        left = state(new SongOffice());
        for (int i = 0; i < fresh.size(); i++) {
            due("answer " + i + " of a new one made behind them", left.get(i), fresh.get(i));
        }
        sentence = "A new object: No SHARES, BARGAINS; THE TERM is 0";
        SongOffice x = new SongOffice();
        row("counts", new long[] {x.count(0), x.count(1), x.count(2), x.count(3)}, 0, 0, 0, 0);
        row("counts", new long[] {x.count(4), x.count(5), x.count(6), x.count(7)}, 0, 0, 12, 0);
        for (int w = 0; w < 12; w++) {
            due("no SHARES of " + w, told(brings(x, w, 1)), NONE);
            due("a first set of " + w, alone(x, w, 0), 1);
            due("SHARES of " + w, told(brings(x, w, 1)), 1);
        }
        due("a first BARGAIN", split(x, 0), 0);
    }

    private static void nothingLeft() {
        sentence = "An object is used for at most 512 calls: the last of them is as the first";
        SongOffice x = office();
        // office() made six of them.
        for (int k = 0; k < 503; k++) {
            due("report", told(brings(x, k % 3, k)), 1);
        }
        x.close();
        due("due", x.due(2, 0), 500);
        due("due", x.due(1, 0), 502);
        sentence = "THE TERM 40: what asks for a TERM is refused, the rest goes on";
        SongOffice y = after(closed(40));
        due("sent", y.sent(0, 1), COIN);
        due("debt", y.hand(0, 1), COIN);
        due("mend", told(y.mend(0, 0, 5, 0, 0, false)), 1);
        due("owed: sent back behind the last CLOSE", y.hand(0, 4), 5 * COIN);
        due("settle", y.settle(), 1);
        due("purse", y.hand(0, 0), 5 * COIN);
        due("debt stays", y.hand(0, 1), COIN);
        due("close", y.close(), NONE);
        due("purse stays", y.hand(0, 0), 5 * COIN);
    }
}
