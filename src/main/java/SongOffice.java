import java.util.Arrays;

/** An office of songs, as ../shared/DOC.md promises it; README.md tells how its parts hang together. */
public final class SongOffice {
    public static final int NONE = -1;

    private static final int HANDS = 12;
    private static final int WORKS = 12;
    private static final int ALL_WORKS = 4095;
    private static final int TERMS = 40;
    private static final int TERM_DAYS = 90;
    private static final int PART_DAYS = 30;
    private static final int PARTS = 3;
    private static final int YEAR_TERMS = 4;
    private static final int LAST_DAY = 3599;
    private static final long COIN = 1_000_000L;
    private static final int MOST_COINS = 1_000_000;
    private static final int WHOLE = 1000;

    private static final int MOST_SETS = 6;
    private static final int SHARERS = 3;
    private static final int MOST_BARGAINS = 24;
    private static final int MOST_RESERVE_TERMS = 8;
    private static final int MOST_SENT = 60;
    private static final int MOST_LINES = 600;
    private static final int MOST_PASSES = 2;

    private static final int SPLIT = 0;
    private static final int ADVANCE = 1;
    private static final int FLOOR = 2;
    private static final int STEP = 3;
    private static final int RESERVE = 4;

    private static final int NOT_TOLD = 0;
    private static final int TOLD_IN_ALL = 1;
    private static final int TOLD_BY_DAYS = 2;
    private static final int OPEN_MARK = 4;

    private static final int FIRST_BAG = 20;

    private final ShareBook shares;
    private final BargainBook bargains;
    private final ReportBook reports;
    private final SentBook sentBack;
    private final Ledger standing;
    private final Ledger anew;
    private int settled;

    public SongOffice() {
        shares = new ShareBook();
        bargains = new BargainBook();
        reports = new ReportBook();
        sentBack = new SentBook();
        Books books = new Books(shares, bargains, reports, sentBack);
        standing = new Ledger(books, MOST_LINES);
        anew = new Ledger(books, 0);
    }

    public int share(int work, int day, int a, int pa, int b, int pb, int c, int pc) {
        if (!isWork(work) || !isDayAhead(day) || !shares.hasRoom(work, day)) {
            return NONE;
        }
        if (!isHand(a) || !isPart(pa) || !isSharer(b, pb) || !isSharer(c, pc)) {
            return NONE;
        }
        boolean gap = b == NONE && c != NONE;
        boolean alike = a == b || a == c || (b != NONE && b == c);
        if (gap || alike || pa + pb + pc != WHOLE) {
            return NONE;
        }
        int set = shares.addSet(work, day);
        shares.put(set, 0, a, pa);
        shares.put(set, 1, b, pb);
        shares.put(set, 2, c, pc);
        return shares.sets[work];
    }

    public int bargain(int kind, int hand, int works, int day, int x, int y, int z, int taker) {
        if (kind < SPLIT || kind > RESERVE || !isHand(hand) || works < 1 || works > ALL_WORKS) {
            return NONE;
        }
        if (!isDayAhead(day) || bargains.size >= MOST_BARGAINS || !termsFit(kind, x, y, z)) {
            return NONE;
        }
        if (passesOn(kind) && (!isHand(taker) || taker == hand)) {
            return NONE;
        }
        int n = bargains.add(kind, hand, works, day);
        bargains.agree(n, x, y, z, taker);
        return n;
    }

    public boolean report(int work, int a, int b, int c, boolean days) {
        int now = standing.closed;
        if (now >= TERMS || !reportFits(work, a, b, c, days)) {
            return false;
        }
        reports.put(now, work, a, b, c, days);
        return true;
    }

    public boolean tear(int n) {
        int now = standing.closed;
        if (now >= TERMS || n < NONE || n > WORKS) {
            return false;
        }
        reports.tearAt(now, Math.max(n, 0));
        return true;
    }

    public long sent(int hand, int coins) {
        if (!isHand(hand) || !isSum(coins) || sentBack.size >= MOST_SENT) {
            return NONE;
        }
        int now = standing.closed;
        sentBack.add(hand, coins, now);
        standing.reckonTo(now);
        return standing.lacked;
    }

    public int close() {
        int now = standing.closed;
        if (now >= TERMS) {
            return NONE;
        }
        standing.reckonTo(now + 1);
        return now;
    }

    public int due(int hand, int term) {
        if (!isHand(hand) || !isClosed(term)) {
            return NONE;
        }
        return standing.dues[hand * TERMS + term];
    }

    public long hand(int h, int what) {
        if (!isHand(h)) {
            return NONE;
        }
        switch (what) {
            case 0:
                return standing.purse[h];
            case 1:
                return standing.debt[h];
            case 2:
                return standing.allDues(h);
            case 3:
                return standing.filled[h];
            case 4:
                anew.reckonTo(standing.closed);
                return owedTo(h);
            default:
                return NONE;
        }
    }

    public long has(int n, int what) {
        if (n < 0 || n >= bargains.size) {
            return NONE;
        }
        if (what == 0) {
            return standing.kept[n];
        }
        if (what == 1) {
            return standing.came[n];
        }
        if (what == 2) {
            return standing.stillIn(n);
        }
        if (what >= FIRST_BAG && what < FIRST_BAG + TERMS) {
            return standing.bags[n * TERMS + what - FIRST_BAG];
        }
        return 0;
    }

    public int told(int term, int work, int what) {
        boolean known = isClosed(term) || isTheTerm(term);
        if (!known || !isWork(work)) {
            return NONE;
        }
        switch (what) {
            case 0:
            case 1:
            case 2:
                return reports.coinsOf(term, work, what);
            case 3:
                return reports.wayOf(term, work) + (reports.isOpen(term, work) ? OPEN_MARK : 0);
            case 4:
                return reports.placeOf(term, work);
            default:
                return NONE;
        }
    }

    public boolean mend(int term, int work, int a, int b, int c, boolean days) {
        if (!isClosed(term) || !reportFits(work, a, b, c, days)) {
            return false;
        }
        reports.put(term, work, a, b, c, days);
        reports.bringBack(term, work);
        if (term < anew.closed) {
            anew.clear();
        }
        return true;
    }

    public long owe() {
        anew.reckonTo(standing.closed);
        long all = 0;
        for (int h = 0; h < HANDS; h++) {
            all += owedTo(h);
        }
        return all;
    }

    public int settle() {
        anew.reckonTo(standing.closed);
        int owed = 0;
        for (int h = 0; h < HANDS; h++) {
            if (owedTo(h) != 0) {
                owed++;
            }
        }
        standing.becomeLike(anew);
        settled++;
        return owed;
    }

    public long line(int i, int what) {
        LineBook lines = standing.lines;
        if (i < 0 || i >= lines.kept()) {
            return NONE;
        }
        switch (what) {
            case 0:
                return lines.work[i];
            case 1:
                return lines.owner[i];
            case 2:
                return lines.from[i];
            case 3:
                return lines.began[i];
            case 4:
                return lines.ended[i];
            default:
                return NONE;
        }
    }

    public long count(int what) {
        switch (what) {
            case 0:
                return standing.closed;
            case 1:
                return bargains.size;
            case 2:
                return standing.lines.size;
            case 3:
                return standing.cameIn;
            case 4:
                return standing.allFilled();
            case 5:
                return sentBack.coinsInAll * COIN;
            case 6:
                return standing.closed < TERMS ? reports.tornAt(standing.closed) : NONE;
            case 7:
                return settled;
            default:
                return NONE;
        }
    }

    // ANEW has to be reckoned to THE TERM ahead of this.
    private long owedTo(int h) {
        return anew.worth(h) - standing.worth(h);
    }

    private boolean isClosed(int term) {
        return term >= 0 && term < standing.closed;
    }

    private boolean isTheTerm(int term) {
        return term == standing.closed && term < TERMS;
    }

    // With no TERM left its first DAY would be 3600, so that no DAY passes.
    private boolean isDayAhead(int day) {
        return day >= standing.closed * TERM_DAYS && day <= LAST_DAY;
    }

    private boolean reportFits(int work, int a, int b, int c, boolean days) {
        if (!isWork(work) || shares.sets[work] == 0 || !isTold(a)) {
            return false;
        }
        return !days || (isTold(b) && isTold(c));
    }

    private static boolean termsFit(int kind, int x, int y, int z) {
        switch (kind) {
            case SPLIT:
                return isPart(x);
            case ADVANCE:
            case FLOOR:
                return isSum(x);
            case STEP:
                return isPart(x) && isSum(y) && z >= 0 && z <= WHOLE;
            case RESERVE:
                return isPart(x) && y >= 1 && y <= MOST_RESERVE_TERMS;
            default:
                return false;
        }
    }

    private static boolean passesOn(int kind) {
        return kind == SPLIT || kind == STEP;
    }

    private static boolean isHand(int hand) {
        return hand >= 0 && hand < HANDS;
    }

    private static boolean isWork(int work) {
        return work >= 0 && work < WORKS;
    }

    private static boolean isPart(int part) {
        return part >= 1 && part <= WHOLE;
    }

    private static boolean isSum(int coins) {
        return coins >= 1 && coins <= MOST_COINS;
    }

    private static boolean isTold(int coins) {
        return coins >= 0 && coins <= MOST_COINS;
    }

    private static boolean isSharer(int hand, int part) {
        return hand == NONE ? part == 0 : isHand(hand) && isPart(part);
    }

    /** Up to six sets of SHARES a WORK, each of three places, those behind its HANDS empty. */
    private static final class ShareBook {
        final int[] sets = new int[WORKS];
        final int[] days = new int[WORKS * MOST_SETS];
        final int[] hands = new int[WORKS * MOST_SETS * SHARERS];
        final int[] parts = new int[WORKS * MOST_SETS * SHARERS];

        boolean hasRoom(int work, int day) {
            int there = sets[work];
            if (there == 0) {
                return true;
            }
            return there < MOST_SETS && day > days[work * MOST_SETS + there - 1];
        }

        int addSet(int work, int day) {
            int set = work * MOST_SETS + sets[work];
            days[set] = day;
            sets[work]++;
            return set;
        }

        void put(int set, int place, int hand, int part) {
            hands[set * SHARERS + place] = hand;
            parts[set * SHARERS + place] = part;
        }

        int setAt(int work, int day) {
            int found = work * MOST_SETS;
            for (int s = 1; s < sets[work]; s++) {
                if (days[work * MOST_SETS + s] <= day) {
                    found = work * MOST_SETS + s;
                }
            }
            return found;
        }
    }

    /** What was agreed; what came of it stands in the ledgers. */
    private static final class BargainBook {
        final int[] kinds = new int[MOST_BARGAINS];
        final int[] hands = new int[MOST_BARGAINS];
        final int[] works = new int[MOST_BARGAINS];
        final int[] days = new int[MOST_BARGAINS];
        final int[] x = new int[MOST_BARGAINS];
        final int[] y = new int[MOST_BARGAINS];
        final int[] z = new int[MOST_BARGAINS];
        final int[] takers = new int[MOST_BARGAINS];
        int size;

        int add(int kind, int hand, int workBits, int day) {
            int n = size;
            kinds[n] = kind;
            hands[n] = hand;
            works[n] = workBits;
            days[n] = day;
            size++;
            return n;
        }

        void agree(int n, int first, int second, int third, int taker) {
            x[n] = first;
            y[n] = second;
            z[n] = third;
            takers[n] = taker;
        }

        boolean holdsFor(int n, int hand, int work, int lastDay) {
            return hands[n] == hand && (works[n] >> work & 1) == 1 && days[n] <= lastDay;
        }

        boolean isReserveOf(int n, int hand) {
            return kinds[n] == RESERVE && hands[n] == hand;
        }
    }

    /** The REPORTS of all TERMS as they are mended, and which WORKS are OPEN in each. */
    private static final class ReportBook {
        private final int[] coins = new int[TERMS * WORKS * PARTS];
        private final int[] ways = new int[TERMS * WORKS];
        private final int[] places = new int[TERMS * WORKS];
        private final int[] order = new int[TERMS * WORKS];
        private final int[] sizes = new int[TERMS];
        private final int[] openWorks = new int[TERMS];

        void put(int term, int work, int a, int b, int c, boolean days) {
            int row = term * WORKS + work;
            if (ways[row] == NOT_TOLD) {
                places[row] = sizes[term];
                order[term * WORKS + sizes[term]] = work;
                sizes[term]++;
            }
            ways[row] = days ? TOLD_BY_DAYS : TOLD_IN_ALL;
            coins[row * PARTS] = a;
            coins[row * PARTS + 1] = days ? b : 0;
            coins[row * PARTS + 2] = days ? c : 0;
        }

        void tearAt(int term, int work) {
            openWorks[term] = ALL_WORKS << work & ALL_WORKS;
        }

        // Holds of THE TERM alone: in a CLOSED one a WORK in the middle may have been mended.
        int tornAt(int term) {
            return WORKS - Integer.bitCount(openWorks[term]);
        }

        void bringBack(int term, int work) {
            openWorks[term] &= ~(1 << work);
        }

        boolean isOpen(int term, int work) {
            return (openWorks[term] >> work & 1) == 1;
        }

        int sizeOf(int term) {
            return sizes[term];
        }

        int workAt(int term, int place) {
            return order[term * WORKS + place];
        }

        int coinsOf(int term, int work, int part) {
            return coins[(term * WORKS + work) * PARTS + part];
        }

        int wayOf(int term, int work) {
            return ways[term * WORKS + work];
        }

        int placeOf(int term, int work) {
            int row = term * WORKS + work;
            return ways[row] == NOT_TOLD ? NONE : places[row];
        }
    }

    /** What was SENT BACK, in the order in which it came, each with THE TERM of then. */
    private static final class SentBook {
        final int[] hands = new int[MOST_SENT];
        final int[] coins = new int[MOST_SENT];
        final int[] terms = new int[MOST_SENT];
        int size;
        long coinsInAll;

        void add(int hand, int sum, int term) {
            hands[size] = hand;
            coins[size] = sum;
            terms[size] = term;
            size++;
            coinsInAll += sum;
        }
    }

    /** What both ledgers are reckoned from. */
    private static final class Books {
        final ShareBook shares;
        final BargainBook bargains;
        final ReportBook reports;
        final SentBook sentBack;

        Books(ShareBook shares, BargainBook bargains, ReportBook reports, SentBook sentBack) {
            this.shares = shares;
            this.bargains = bargains;
            this.reports = reports;
            this.sentBack = sentBack;
        }
    }

    /** The LINES of one CLOSE: all are counted, as many are kept as there is room for. */
    private static final class LineBook {
        final int room;
        final int[] work;
        final int[] owner;
        final int[] from;
        final long[] began;
        final long[] ended;
        int size;

        LineBook(int most) {
            room = Math.max(0, most);
            work = new int[room];
            owner = new int[room];
            from = new int[room];
            began = new long[room];
            ended = new long[room];
        }

        int kept() {
            return Math.min(size, room);
        }

        int begin(int ofWork, int ofHand, int ofBargain, long mites) {
            int i = size;
            if (i < room) {
                work[i] = ofWork;
                owner[i] = ofHand;
                from[i] = ofBargain;
                began[i] = mites;
            }
            size++;
            return i;
        }

        void end(int i, long mites) {
            if (i >= 0 && i < room) {
                ended[i] = mites;
            }
        }
    }

    /**
     * What the books come to, reckoned TERM by TERM. The office keeps two: the one that stands, and
     * ANEW, which goes on from where it is and begins again only when a TERM behind it is mended.
     * (New SHARES and BARGAINS never reach a CLOSED TERM: their DAYS are not ahead of THE TERM.)
     */
    private static final class Ledger {
        final long[] purse = new long[HANDS];
        final long[] debt = new long[HANDS];
        final long[] filled = new long[HANDS];
        final int[] dues = new int[HANDS * TERMS];
        final long[] kept = new long[MOST_BARGAINS];
        final long[] came = new long[MOST_BARGAINS];
        final long[] bags = new long[MOST_BARGAINS * TERMS];
        final LineBook lines;
        long cameIn;
        long lacked;
        int closed;
        private int sentTaken;
        private final ShareBook shares;
        private final BargainBook bargains;
        private final ReportBook reports;
        private final SentBook sentBack;

        Ledger(Books books, int roomForLines) {
            shares = books.shares;
            bargains = books.bargains;
            reports = books.reports;
            sentBack = books.sentBack;
            lines = new LineBook(roomForLines);
        }

        void clear() {
            Arrays.fill(purse, 0);
            Arrays.fill(debt, 0);
            Arrays.fill(filled, 0);
            Arrays.fill(dues, 0);
            Arrays.fill(kept, 0);
            Arrays.fill(came, 0);
            Arrays.fill(bags, 0);
            cameIn = 0;
            closed = 0;
            sentTaken = 0;
        }

        void reckonTo(int term) {
            int end = Math.min(term, TERMS);
            for (int t = closed; t < end; t++) {
                takeSentOf(t);
                closeTerm();
            }
            takeSentOf(term);
        }

        // DUES stay as they were paid: the PURSE takes what they should have been more or less.
        void becomeLike(Ledger other) {
            for (int h = 0; h < HANDS; h++) {
                long owed = other.worth(h) - worth(h);
                purse[h] += owed + other.debt[h] - debt[h];
                debt[h] = other.debt[h];
                filled[h] = other.filled[h];
            }
            System.arraycopy(other.kept, 0, kept, 0, MOST_BARGAINS);
            System.arraycopy(other.came, 0, came, 0, MOST_BARGAINS);
            System.arraycopy(other.bags, 0, bags, 0, MOST_BARGAINS * TERMS);
            cameIn = other.cameIn;
        }

        long worth(int hand) {
            return allDues(hand) * COIN + purse[hand] - debt[hand];
        }

        long allDues(int hand) {
            return duesOf(hand, 0, closed);
        }

        long allFilled() {
            long all = 0;
            for (int h = 0; h < HANDS; h++) {
                all += filled[h];
            }
            return all;
        }

        long stillIn(int n) {
            if (bargains.kinds[n] == ADVANCE) {
                return bargains.x[n] * COIN - kept[n];
            }
            long all = 0;
            for (int t = 0; t < TERMS; t++) {
                all += bags[n * TERMS + t];
            }
            return all;
        }

        private long duesOf(int hand, int first, int end) {
            long all = 0;
            for (int t = first; t < end; t++) {
                all += dues[hand * TERMS + t];
            }
            return all;
        }

        private void takeSentOf(int term) {
            while (sentTaken < sentBack.size && sentBack.terms[sentTaken] == term) {
                takeSent(sentBack.hands[sentTaken], sentBack.coins[sentTaken] * COIN);
                sentTaken++;
            }
        }

        private void takeSent(int hand, long mites) {
            long lack = mites;
            for (int t = 0; t < closed && lack > 0; t++) {
                for (int n = 0; n < bargains.size; n++) {
                    if (bargains.isReserveOf(n, hand)) {
                        long taken = Math.min(lack, bags[n * TERMS + t]);
                        bags[n * TERMS + t] -= taken;
                        lack -= taken;
                    }
                }
            }
            debt[hand] += lack;
            lacked = lack;
        }

        private void closeTerm() {
            lines.size = 0;
            for (int i = 0; i < reports.sizeOf(closed); i++) {
                int work = reports.workAt(closed, i);
                if (!reports.isOpen(closed, work)) {
                    bringIn(work);
                }
            }
            emptyOldBags();
            payHands();
            if (closed % YEAR_TERMS == YEAR_TERMS - 1) {
                fillFloors();
            }
            closed++;
        }

        private int lastDay() {
            return closed * TERM_DAYS + TERM_DAYS - 1;
        }

        private void bringIn(int work) {
            int parts = reports.wayOf(closed, work) == TOLD_BY_DAYS ? PARTS : 1;
            for (int part = 0; part < parts; part++) {
                long coins = reports.coinsOf(closed, work, part);
                int set = shares.setAt(work, lastDay() - (parts - 1 - part) * PART_DAYS);
                cameIn += coins * COIN;
                for (int s = set * SHARERS; s < (set + 1) * SHARERS; s++) {
                    long mites = coins * shares.parts[s] * (COIN / WHOLE);
                    if (mites > 0) {
                        runLine(work, shares.hands[s], NONE, 0, mites);
                    }
                }
            }
        }

        private void runLine(int work, int hand, int from, int passes, long mites) {
            int i = lines.begin(work, hand, from, mites);
            long left = mites;
            for (int n = from + 1; n < bargains.size && left > 0; n++) {
                boolean passing = passesOn(bargains.kinds[n]);
                boolean letBy = passing && passes >= MOST_PASSES;
                if (letBy || !bargains.holdsFor(n, hand, work, lastDay())) {
                    continue;
                }
                long taken = takenBy(n, left);
                came[n] += left;
                kept[n] += taken;
                left -= taken;
                if (bargains.kinds[n] == RESERVE) {
                    bags[n * TERMS + closed] += taken;
                }
                if (passing && taken > 0) {
                    runLine(work, bargains.takers[n], n, passes + 1, taken);
                }
            }
            purse[hand] += left;
            lines.end(i, left);
        }

        private long takenBy(int n, long mites) {
            long x = bargains.x[n];
            switch (bargains.kinds[n]) {
                case SPLIT:
                case RESERVE:
                    return mites * x / WHOLE;
                case ADVANCE:
                    return Math.min(mites, x * COIN - kept[n]);
                case STEP:
                    long ahead = Math.min(mites, Math.max(0, bargains.y[n] * COIN - came[n]));
                    return ahead * x / WHOLE + (mites - ahead) * bargains.z[n] / WHOLE;
                default:
                    return 0;
            }
        }

        private void emptyOldBags() {
            for (int n = 0; n < bargains.size; n++) {
                if (bargains.kinds[n] == RESERVE && closed >= bargains.y[n]) {
                    int bag = n * TERMS + closed - bargains.y[n];
                    purse[bargains.hands[n]] += bags[bag];
                    bags[bag] = 0;
                }
            }
        }

        private void payHands() {
            for (int h = 0; h < HANDS; h++) {
                if (debt[h] > 0 && purse[h] > 0) {
                    long paid = Math.min(debt[h], purse[h]);
                    purse[h] -= paid;
                    debt[h] -= paid;
                }
                long coins = Math.max(0, purse[h] / COIN);
                purse[h] -= coins * COIN;
                dues[h * TERMS + closed] = (int) coins;
            }
        }

        private void fillFloors() {
            for (int n = 0; n < bargains.size; n++) {
                if (bargains.kinds[n] == FLOOR && bargains.days[n] <= lastDay()) {
                    int hand = bargains.hands[n];
                    long year = duesOf(hand, closed - YEAR_TERMS + 1, closed + 1);
                    long lack = Math.max(0, bargains.x[n] - year);
                    dues[hand * TERMS + closed] += (int) lack;
                    filled[hand] += lack;
                }
            }
        }
    }
}
