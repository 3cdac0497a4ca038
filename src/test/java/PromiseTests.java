/** For each promise of the document: ordinary inputs, the edges it names, and wrong inputs, reckoned by hand. */
public final class PromiseTests {
    private static final int NONE = SongOffice.NONE;
    private static final int SPLIT = 0;
    private static final int ADVANCE = 1;
    private static final int FLOOR = 2;
    private static final int STEP = 3;
    private static final int RESERVE = 4;
    private static final long COIN = 1_000_000L;
    private static final int LOW = Integer.MIN_VALUE;
    private static final int HIGH = Integer.MAX_VALUE;

    private static int wrong = 0;
    private static String part = "";

    public static void main(String[] args) {
        newObject();
        shareAnswers();
        shareByDay();
        bargainAnswers();
        reportAnswers();
        tearing();
        sentAnswers();
        sentFromBags();
        closing();
        splitsInALine();
        passedOnTwice();
        advances();
        steps();
        reserves();
        floors();
        dues();
        handAnswers();
        hasAnswers();
        toldAnswers();
        mending();
        mendingWhatWasTorn();
        owing();
        owingWithSentBack();
        settling();
        settlingDebts();
        settlingBargains();
        lineAnswers();
        manyLines();
        counts();
        theEnd();
        fullOffice();
        wildArguments();
        System.out.println(wrong == 0 ? "all promises hold" : wrong + " answers are not as due");
        if (wrong != 0) {
            System.exit(1);
        }
    }

    private static void due(String call, long got, long want) {
        if (got != want) {
            wrong++;
            System.out.println(part + ": " + call + " answered " + got + ", due is " + want);
        }
    }

    private static void due(String call, boolean got, boolean want) {
        due(call, got ? 1 : 0, want ? 1 : 0);
    }

    private static void dueHand(SongOffice x, int h, long purse, long debt, long dues) {
        due("purse of " + h, x.hand(h, 0), purse);
        due("debt of " + h, x.hand(h, 1), debt);
        due("dues of " + h, x.hand(h, 2), dues);
    }

    private static void dueLine(SongOffice x, int i, long... want) {
        for (int what = 0; what < want.length; what++) {
            due("line(" + i + ", " + what + ")", x.line(i, what), want[what]);
        }
    }

    private static int alone(SongOffice x, int work, int day, int hand) {
        return x.share(work, day, hand, 1000, NONE, 0, NONE, 0);
    }

    private static boolean brings(SongOffice x, int work, int coins) {
        return x.report(work, coins, 0, 0, false);
    }

    private static void closeTo(SongOffice x, int term) {
        for (int t = 0; t < 40 && x.count(0) < term; t++) {
            x.close();
        }
    }

    /** HAND 0 has WORK 0 alone, HAND 1 WORK 1. */
    private static SongOffice office() {
        SongOffice x = new SongOffice();
        alone(x, 0, 0, 0);
        alone(x, 1, 0, 1);
        return x;
    }

    private static void newObject() {
        part = "promise 1";
        due("NONE", SongOffice.NONE, -1);
        SongOffice x = new SongOffice();
        long[] want = {0, 0, 0, 0, 0, 0, 12, 0, NONE};
        for (int what = 0; what < want.length; what++) {
            due("count(" + what + ")", x.count(what), want[what]);
        }
        for (int w = 0; w < 12; w++) {
            due("report without shares", brings(x, w, 1), false);
            due("told", x.told(0, w, 3), 0);
        }
        for (int h = 0; h < 12; h++) {
            dueHand(x, h, 0, 0, 0);
            due("filled", x.hand(h, 3), 0);
            due("owed", x.hand(h, 4), 0);
        }
        due("has", x.has(0, 0), NONE);
        due("line", x.line(0, 0), NONE);
        due("owe()", x.owe(), 0);
    }

    private static void shareAnswers() {
        part = "promise 2";
        SongOffice x = new SongOffice();
        due("no such work", alone(x, 12, 0, 0), NONE);
        due("no such work", alone(x, -1, 0, 0), NONE);
        due("no such hand a", alone(x, 0, 0, 12), NONE);
        due("a none", x.share(0, 0, NONE, 0, 1, 1000, NONE, 0), NONE);
        due("no such hand b", x.share(0, 0, 0, 500, 12, 500, NONE, 0), NONE);
        due("no such hand b", x.share(0, 0, 0, 500, -2, 500, NONE, 0), NONE);
        due("no such hand c", x.share(0, 0, 0, 500, 1, 400, 12, 100), NONE);
        due("c without b", x.share(0, 0, 0, 500, NONE, 0, 1, 500), NONE);
        due("a and b alike", x.share(0, 0, 3, 500, 3, 500, NONE, 0), NONE);
        due("a and c alike", x.share(0, 0, 3, 500, 4, 400, 3, 100), NONE);
        due("b and c alike", x.share(0, 0, 3, 500, 4, 400, 4, 100), NONE);
        due("part 0", x.share(0, 0, 0, 1000, 1, 0, NONE, 0), NONE);
        due("part 0", x.share(0, 0, 0, 0, 1, 1000, NONE, 0), NONE);
        due("part of none", x.share(0, 0, 0, 500, NONE, 500, NONE, 0), NONE);
        due("part of none", x.share(0, 0, 0, 500, 1, 400, NONE, 100), NONE);
        due("part below 0", x.share(0, 0, 0, 1000, 1, 500, 2, -500), NONE);
        due("part above 1000", x.share(0, 0, 0, 1001, NONE, 0, NONE, 0), NONE);
        due("999 together", x.share(0, 0, 0, 500, 1, 400, 2, 99), NONE);
        due("1001 together", x.share(0, 0, 0, 500, 1, 400, 2, 101), NONE);
        due("day below 0", alone(x, 0, -1, 0), NONE);
        due("day 3600", alone(x, 0, 3600, 0), NONE);
        due("still without shares", brings(x, 0, 1), false);
        due("first set", x.share(0, 0, 11, 500, 0, 499, 2, 1), 1);
        due("day of the set before", alone(x, 0, 0, 0), NONE);
        due("second set", alone(x, 0, 1, 0), 2);
        due("other work", alone(x, 11, 3599, 11), 1);
        x.close();
        due("day ahead of the term", alone(x, 0, 89, 0), NONE);
        due("day ahead of the term, first set", alone(x, 1, 89, 0), NONE);
        due("term's first day", alone(x, 0, 90, 0), 3);
        due("day ahead of the set before", alone(x, 0, 89, 0), NONE);
        due("fourth", alone(x, 0, 1000, 0), 4);
        due("behind a set", alone(x, 0, 999, 0), NONE);
        due("fifth", alone(x, 0, 1001, 0), 5);
        due("sixth, last day", alone(x, 0, 3599, 0), 6);
        due("it has 6", alone(x, 0, 3599, 0), NONE);
        alone(x, 5, 100, 0);
        for (int k = 2; k <= 6; k++) {
            due("set " + k, alone(x, 5, 100 + k, 0), k);
        }
        due("it has 6", alone(x, 5, 200, 0), NONE);
    }

    private static void shareByDay() {
        part = "promise 2, by day";
        SongOffice x = new SongOffice();
        alone(x, 0, 10, 0);
        alone(x, 0, 30, 1);
        alone(x, 0, 60, 2);
        alone(x, 0, 89, 3);
        alone(x, 0, 119, 4);
        alone(x, 0, 120, 5);
        x.report(0, 1, 2, 4, true);
        x.close();
        long[] first = {1, 2, 0, 4, 0, 0};
        for (int h = 0; h < 6; h++) {
            due("due(" + h + ", 0)", x.due(h, 0), first[h]);
        }
        x.report(0, 1, 2, 4, true);
        x.close();
        long[] second = {0, 0, 0, 0, 1, 6};
        for (int h = 0; h < 6; h++) {
            due("due(" + h + ", 1)", x.due(h, 1), second[h]);
        }
        SongOffice y = new SongOffice();
        alone(y, 0, 500, 7);
        alone(y, 0, 600, 8);
        brings(y, 0, 3);
        y.close();
        due("ahead of the first set", y.due(7, 0), 3);
        SongOffice z = new SongOffice();
        alone(z, 0, 0, 1);
        alone(z, 0, 89, 2);
        brings(z, 0, 5);
        z.close();
        due("in all: by day 89", z.due(2, 0), 5);
        due("in all: by day 89", z.due(1, 0), 0);
    }

    private static void bargainAnswers() {
        part = "promise 3";
        SongOffice x = new SongOffice();
        due("kind -1", x.bargain(-1, 0, 1, 0, 1, 1, 1, 1), NONE);
        due("kind 5", x.bargain(5, 0, 1, 0, 1, 1, 1, 1), NONE);
        due("hand -1", x.bargain(SPLIT, -1, 1, 0, 1, 1, 1, 1), NONE);
        due("hand 12", x.bargain(SPLIT, 12, 1, 0, 1, 1, 1, 1), NONE);
        due("no works", x.bargain(SPLIT, 0, 0, 0, 1, 1, 1, 1), NONE);
        due("works 4096", x.bargain(SPLIT, 0, 4096, 0, 1, 1, 1, 1), NONE);
        due("works -1", x.bargain(SPLIT, 0, -1, 0, 1, 1, 1, 1), NONE);
        due("day -1", x.bargain(SPLIT, 0, 1, -1, 1, 1, 1, 1), NONE);
        due("day 3600", x.bargain(SPLIT, 0, 1, 3600, 1, 1, 1, 1), NONE);
        for (int kind : new int[] {SPLIT, STEP, RESERVE}) {
            due("part 0", x.bargain(kind, 0, 1, 0, 0, 1, 1, 1), NONE);
            due("part 1001", x.bargain(kind, 0, 1, 0, 1001, 1, 1, 1), NONE);
        }
        for (int kind : new int[] {ADVANCE, FLOOR}) {
            due("sum 0", x.bargain(kind, 0, 1, 0, 0, 1, 1, 1), NONE);
            due("sum 1000001", x.bargain(kind, 0, 1, 0, 1_000_001, 1, 1, 1), NONE);
        }
        due("step sum 0", x.bargain(STEP, 0, 1, 0, 1, 0, 1, 1), NONE);
        due("step sum 1000001", x.bargain(STEP, 0, 1, 0, 1, 1_000_001, 1, 1), NONE);
        due("step other -1", x.bargain(STEP, 0, 1, 0, 1, 1, -1, 1), NONE);
        due("step other 1001", x.bargain(STEP, 0, 1, 0, 1, 1, 1001, 1), NONE);
        due("reserve 0 terms", x.bargain(RESERVE, 0, 1, 0, 1, 0, 1, 1), NONE);
        due("reserve 9 terms", x.bargain(RESERVE, 0, 1, 0, 1, 9, 1, 1), NONE);
        for (int kind : new int[] {SPLIT, STEP}) {
            due("taker -1", x.bargain(kind, 0, 1, 0, 1, 1, 1, -1), NONE);
            due("taker 12", x.bargain(kind, 0, 1, 0, 1, 1, 1, 12), NONE);
            due("taker itself", x.bargain(kind, 4, 1, 0, 1, 1, 1, 4), NONE);
        }
        due("none is there", x.count(1), 0);
        due("split", x.bargain(SPLIT, 0, 1, 0, 1, LOW, HIGH, 11), 0);
        due("split", x.bargain(SPLIT, 11, 4095, 3599, 1000, LOW, HIGH, 0), 1);
        due("advance", x.bargain(ADVANCE, 0, 1, 0, 1, LOW, HIGH, 0), 2);
        due("advance", x.bargain(ADVANCE, 0, 1, 0, 1_000_000, LOW, HIGH, 99), 3);
        due("floor", x.bargain(FLOOR, 0, 1, 0, 1, LOW, HIGH, 0), 4);
        due("floor", x.bargain(FLOOR, 0, 1, 0, 1_000_000, LOW, HIGH, 99), 5);
        due("step", x.bargain(STEP, 0, 1, 0, 1, 1, 0, 1), 6);
        due("step", x.bargain(STEP, 0, 1, 0, 1000, 1_000_000, 1000, 1), 7);
        due("reserve", x.bargain(RESERVE, 0, 1, 0, 1, 1, LOW, 0), 8);
        due("reserve", x.bargain(RESERVE, 0, 1, 0, 1000, 8, HIGH, 99), 9);
        x.close();
        due("day ahead of the term", x.bargain(FLOOR, 0, 1, 89, 1, 0, 0, 0), NONE);
        for (int n = 10; n < 24; n++) {
            due("number " + n, x.bargain(FLOOR, 0, 1, 90, 1, 0, 0, 0), n);
        }
        due("24 are there", x.bargain(FLOOR, 0, 1, 90, 1, 0, 0, 0), NONE);
        due("24 are there", x.count(1), 24);
    }

    private static void reportAnswers() {
        part = "promise 4";
        SongOffice x = office();
        due("no such work", brings(x, -1, 1), false);
        due("no such work", brings(x, 12, 1), false);
        due("no shares", brings(x, 2, 1), false);
        due("a below 0", brings(x, 0, -1), false);
        due("a above", brings(x, 0, 1_000_001), false);
        due("b below 0", x.report(0, 0, -1, 0, true), false);
        due("b above", x.report(0, 0, 1_000_001, 0, true), false);
        due("c below 0", x.report(0, 0, 0, -1, true), false);
        due("c above", x.report(0, 0, 0, 1_000_001, true), false);
        due("not told", x.told(0, 0, 3), 0);
        due("b, c not looked at", x.report(1, 7, LOW, HIGH, false), true);
        due("by days", x.report(0, 1, 2, 3, true), true);
        due("in place", x.report(1, 0, 1_000_000, 4, true), true);
        due("place of 1", x.told(0, 1, 4), 0);
        due("place of 0", x.told(0, 0, 4), 1);
        due("refused", x.report(1, 5, 5, -5, true), false);
        due("b of 1", x.told(0, 1, 1), 1_000_000);
        x.close();
        due("order", x.line(0, 0), 1);
        due("line 1", x.line(1, 3), 4 * COIN);
        due("line 2", x.line(2, 0), 0);
        due("came in", x.count(3), 1_000_010 * COIN);
    }

    private static void tearing() {
        part = "promise 5";
        SongOffice x = office();
        due("-2", x.tear(-2), false);
        due("13", x.tear(13), false);
        due("whole", x.count(6), 12);
        brings(x, 0, 3);
        due("torn at 1", x.tear(1), true);
        due("torn at 1", x.count(6), 1);
        brings(x, 1, 4);
        due("0 not open", x.told(0, 0, 3), 1);
        due("1 open", x.told(0, 1, 3), 5);
        due("11 open", x.told(0, 11, 3), 4);
        due("refused", x.tear(13), false);
        due("torn at 1 still", x.count(6), 1);
        x.close();
        due("0 came in", x.due(0, 0), 3);
        due("1 did not", x.due(1, 0), 0);
        due("came in", x.count(3), 3 * COIN);
        due("lines", x.count(2), 1);
        due("next term is whole", x.count(6), 12);
        due("1 still open in term 0", x.told(0, 1, 3), 5);
        brings(x, 1, 4);
        x.tear(0);
        due("torn at 0", x.count(6), 0);
        due("whole again", x.tear(12), true);
        due("whole again", x.count(6), 12);
        due("11 not open", x.told(1, 11, 3), 0);
        x.close();
        due("came in", x.due(1, 1), 4);
        brings(x, 0, 5);
        due("missing", x.tear(NONE), true);
        due("missing, like torn at 0", x.count(6), 0);
        due("0 open", x.told(2, 0, 3), 5);
        x.close();
        due("missing", x.due(0, 2), 0);
        brings(x, 0, 5);
        x.tear(NONE);
        x.tear(11);
        x.close();
        due("the latest tear counts", x.due(0, 3), 5);
        due("work 11", x.told(3, 11, 3), 4);
        due("work 10", x.told(3, 10, 3), 0);
    }

    private static void sentAnswers() {
        part = "promise 6";
        SongOffice x = office();
        due("no such hand", x.sent(-1, 1), NONE);
        due("no such hand", x.sent(12, 1), NONE);
        due("0 coins", x.sent(0, 0), NONE);
        due("too many coins", x.sent(0, 1_000_001), NONE);
        due("nothing sent", x.count(5), 0);
        due("all debt", x.sent(0, 1_000_000), 1_000_000 * COIN);
        due("all debt", x.hand(0, 1), 1_000_000 * COIN);
        for (int k = 1; k < 60; k++) {
            due("one more", x.sent(2, 1), COIN);
        }
        due("60 were told", x.sent(2, 1), NONE);
        due("debt", x.hand(2, 1), 59 * COIN);
        due("sent back", x.count(5), 1_000_059 * COIN);
    }

    private static void sentFromBags() {
        part = "promise 6, from bags";
        SongOffice x = office();
        alone(x, 2, 0, 0);
        x.bargain(RESERVE, 0, 1, 90, 500, 8, 0, 0);
        x.bargain(RESERVE, 0, 4, 0, 500, 8, 0, 0);
        x.bargain(RESERVE, 1, 2, 0, 500, 8, 0, 0);
        brings(x, 2, 10);
        brings(x, 1, 100);
        x.close();
        brings(x, 0, 20);
        brings(x, 2, 30);
        x.close();
        due("bag 0 of 1", x.has(1, 20), 5 * COIN);
        due("bag 1 of 0", x.has(0, 21), 10 * COIN);
        due("bag 1 of 1", x.has(1, 21), 15 * COIN);
        due("the lowest term first", x.sent(0, 4), 0);
        due("bag 0 of 1", x.has(1, 20), COIN);
        due("then by number", x.sent(0, 3), 0);
        due("bag 0 of 1", x.has(1, 20), 0);
        due("bag 1 of 0", x.has(0, 21), 8 * COIN);
        due("bag 1 of 1", x.has(1, 21), 15 * COIN);
        due("what they lack", x.sent(0, 30), 7 * COIN);
        due("debt", x.hand(0, 1), 7 * COIN);
        due("all bags empty", x.has(0, 2) + x.has(1, 2), 0);
        due("kept in all stays", x.has(1, 0), 20 * COIN);
        due("another hand's bags", x.has(2, 2), 50 * COIN);
        brings(x, 2, 8);
        x.close();
        due("the debt is the less", x.hand(0, 1), 3 * COIN);
        due("nothing is due", x.due(0, 2), 0);
        brings(x, 2, 8);
        x.close();
        due("no debt left", x.hand(0, 1), 0);
        due("the rest is due", x.due(0, 3), 1);
    }

    private static void closing() {
        part = "promise 7";
        SongOffice x = new SongOffice();
        x.share(3, 0, 5, 333, 6, 333, 7, 334);
        for (int t = 0; t < 40; t++) {
            due("the term", x.count(0), t);
            x.report(3, 1, 0, 0, false);
            due("close()", x.close(), t);
        }
        due("none left", x.close(), NONE);
        due("none left", x.count(0), 40);
        dueHand(x, 5, 320_000, 0, 13);
        dueHand(x, 6, 320_000, 0, 13);
        dueHand(x, 7, 360_000, 0, 13);
        due("due of term 2", x.due(5, 2), 0);
        due("due of term 3", x.due(5, 3), 1);
        SongOffice y = office();
        brings(y, 0, 4);
        y.bargain(RESERVE, 0, 1, 0, 250, 1, 0, 0);
        y.close();
        y.sent(0, 3);
        due("debt behind the bag", y.hand(0, 1), 2 * COIN);
        brings(y, 0, 1);
        y.close();
        due("what came less what it lacks", y.hand(0, 1), 1_250_000);
        dueHand(y, 0, 0, 1_250_000, 3);
        brings(y, 0, 4);
        y.close();
        dueHand(y, 0, 0, 0, 5);
        due("the bag of one term ago went first", y.has(0, 21), 0);
    }

    private static void splitsInALine() {
        part = "promise 7, splits";
        SongOffice x = office();
        x.bargain(SPLIT, 0, 1, 0, 333, 0, 0, 1);
        x.bargain(SPLIT, 0, 2, 0, 1000, 0, 0, 2);
        x.bargain(SPLIT, 0, 1, 90, 1000, 0, 0, 2);
        x.bargain(SPLIT, 1, 1, 0, 1, 0, 0, 3);
        x.bargain(SPLIT, 0, 1, 89, 1, 0, 0, 4);
        brings(x, 0, 1);
        x.close();
        due("passed", x.has(0, 0), 333_000);
        due("not for that work", x.has(1, 1), 0);
        due("not from that day", x.has(2, 1), 0);
        due("taker's own, behind it", x.has(3, 1), 333_000);
        due("passed by it", x.has(3, 0), 333);
        due("from the term's last day", x.has(4, 1), 667_000);
        due("passed", x.has(4, 0), 667);
        dueLine(x, 0, 0, 0, NONE, COIN, 666_333);
        dueLine(x, 1, 0, 1, 0, 333_000, 332_667);
        dueLine(x, 2, 0, 3, 3, 333, 333);
        dueLine(x, 3, 0, 4, 4, 667, 667);
        due("lines", x.count(2), 4);
        SongOffice y = office();
        y.bargain(SPLIT, 1, 1, 0, 500, 0, 0, 2);
        y.bargain(SPLIT, 0, 1, 0, 500, 0, 0, 1);
        brings(y, 0, 8);
        y.close();
        due("a bargain ahead of it is not met", y.has(0, 1), 0);
        due("so the taker keeps all", y.due(1, 0), 4);
        SongOffice z = office();
        z.bargain(RESERVE, 0, 1, 0, 999, 1, 0, 0);
        z.bargain(SPLIT, 0, 1, 0, 999, 0, 0, 1);
        z.bargain(SPLIT, 0, 1, 0, 9, 0, 0, 1);
        z.bargain(SPLIT, 1, 1, 0, 1, 0, 0, 2);
        brings(z, 0, 1);
        z.close();
        due("kept", z.has(0, 0), 999_000);
        due("passed", z.has(1, 0), 999);
        due("a product below 1 is none", z.has(2, 0), 0);
        due("but it came", z.has(2, 1), 1);
        due("a product below 1 is none", z.has(3, 0), 0);
        due("no line of 0", z.count(2), 2);
    }

    private static void passedOnTwice() {
        part = "promise 7, passed on twice";
        SongOffice x = office();
        x.bargain(SPLIT, 0, 1, 0, 500, 0, 0, 1);
        x.bargain(SPLIT, 1, 1, 0, 500, 0, 0, 2);
        x.bargain(SPLIT, 2, 1, 0, 500, 0, 0, 3);
        x.bargain(STEP, 2, 1, 0, 500, 1, 500, 3);
        x.bargain(ADVANCE, 2, 1, 0, 1, 0, 0, 0);
        x.bargain(RESERVE, 2, 1, 0, 500, 1, 0, 0);
        brings(x, 0, 16);
        x.close();
        due("passed", x.has(0, 0), 8 * COIN);
        due("passed", x.has(1, 0), 4 * COIN);
        due("let by a split", x.has(2, 0), 0);
        due("let by a split", x.has(2, 1), 0);
        due("let by a step", x.has(3, 0), 0);
        due("does not count for a step", x.has(3, 1), 0);
        due("the advance keeps", x.has(4, 0), COIN);
        due("the advance: came", x.has(4, 1), 4 * COIN);
        due("the reserve keeps", x.has(5, 0), 1_500_000);
        due("hand 3 has nothing", x.hand(3, 2), 0);
        dueHand(x, 2, 500_000, 0, 1);
        SongOffice y = office();
        y.bargain(SPLIT, 0, 1, 0, 500, 0, 0, 1);
        y.bargain(SPLIT, 1, 1, 0, 500, 0, 0, 0);
        y.bargain(ADVANCE, 0, 1, 0, 5, 0, 0, 0);
        brings(y, 0, 12);
        y.close();
        dueLine(y, 0, 0, 0, NONE, 12 * COIN, 4 * COIN);
        dueLine(y, 1, 0, 1, 0, 6 * COIN, 3 * COIN);
        dueLine(y, 2, 0, 0, 1, 3 * COIN, 0);
        due("a line that is passed on goes all its way first", y.has(2, 0), 5 * COIN);
        due("came", y.has(2, 1), 9 * COIN);
    }

    private static void advances() {
        part = "promise 7, advances";
        SongOffice x = office();
        x.bargain(ADVANCE, 0, 1, 0, 10, 0, 0, 0);
        x.bargain(ADVANCE, 0, 1, 90, 3, 0, 0, 0);
        brings(x, 0, 8);
        x.close();
        brings(x, 0, 8);
        x.close();
        due("the first is full", x.has(0, 2), 0);
        due("kept", x.has(0, 0), 10 * COIN);
        due("came", x.has(0, 1), 16 * COIN);
        due("the second is full", x.has(1, 0), 3 * COIN);
        due("came to the second", x.has(1, 1), 6 * COIN);
        due("what is left", x.due(0, 1), 3);
    }

    private static void steps() {
        part = "promise 7, steps";
        SongOffice x = office();
        x.bargain(STEP, 0, 1, 0, 333, 1, 0, 2);
        x.bargain(RESERVE, 0, 1, 0, 1, 8, 0, 0);
        brings(x, 0, 3);
        x.close();
        due("up to the sum", x.has(0, 0), 333_000);
        brings(x, 0, 3);
        x.close();
        due("behind it none", x.has(0, 0), 333_000);
        due("came", x.has(0, 1), 6 * COIN);
        due("what is left goes on", x.has(1, 1), 5_667_000);
        SongOffice y = office();
        y.bargain(SPLIT, 1, 2, 0, 1, 0, 0, 0);
        y.bargain(SPLIT, 0, 2, 0, 1, 0, 0, 3);
        y.bargain(STEP, 3, 2, 0, 3, 1, 7, 4);
        y.bargain(STEP, 0, 1, 0, 1000, 2, 1, 5);
        brings(y, 0, 5);
        y.close();
        due("above the sum by other", y.has(3, 0), 2_003_000);
        dueLine(y, 1, 0, 5, 3, 2_003_000, 2_003_000);
        due("one line", y.count(2), 2);
        SongOffice z = office();
        z.bargain(RESERVE, 0, 1, 0, 1, 8, 0, 0);
        z.bargain(RESERVE, 0, 1, 0, 1, 8, 0, 0);
        z.bargain(RESERVE, 0, 1, 0, 1, 8, 0, 0);
        z.bargain(STEP, 0, 1, 0, 500, 1, 500, 5);
        brings(z, 0, 1);
        z.close();
        due("came", z.has(3, 1), 997_003);
        due("cut", z.has(3, 0), 498_501);
        brings(z, 0, 2);
        z.close();
        due("came", z.has(3, 1), 997_003 + 1_994_006);
        due("each product is cut: 2,997 and 1,991,009 by half", z.has(3, 0), 498_501 + 1_498 + 995_504);
    }

    private static void reserves() {
        part = "promise 7, reserves";
        SongOffice x = office();
        x.bargain(RESERVE, 0, 1, 0, 500, 1, 0, 0);
        x.bargain(RESERVE, 0, 1, 0, 500, 3, 0, 0);
        x.bargain(SPLIT, 0, 1, 0, 1000, 0, 0, 2);
        brings(x, 0, 8);
        x.close();
        due("bag", x.has(0, 20), 4 * COIN);
        due("bag", x.has(1, 20), 2 * COIN);
        due("to the taker", x.due(2, 0), 2);
        x.close();
        due("let out behind one term, past the split", x.due(0, 1), 4);
        due("empty", x.has(0, 20), 0);
        due("kept in all", x.has(0, 0), 4 * COIN);
        x.close();
        due("not yet", x.due(0, 2), 0);
        due("in the bag", x.has(1, 2), 2 * COIN);
        x.close();
        due("let out behind three terms", x.due(0, 3), 2);
        due("empty", x.has(1, 2), 0);
        SongOffice y = office();
        y.bargain(RESERVE, 1, 2, 0, 1000, 8, 0, 0);
        brings(y, 1, 9);
        closeTo(y, 8);
        due("kept for eight", y.has(0, 20), 9 * COIN);
        y.close();
        due("let out in term 8", y.due(1, 8), 9);
    }

    private static void floors() {
        part = "promise 7, floors";
        SongOffice x = office();
        x.bargain(FLOOR, 0, 2, 0, 20, 0, 0, 0);
        x.bargain(FLOOR, 0, 1, 359, 25, 0, 0, 0);
        x.bargain(FLOOR, 0, 1, 360, 1000, 0, 0, 0);
        x.bargain(FLOOR, 0, 1, 0, 22, 0, 0, 0);
        x.bargain(FLOOR, 1, 1, 0, 7, 0, 0, 0);
        for (int t = 0; t < 4; t++) {
            brings(x, 0, t + 1);
            brings(x, 1, 2);
            x.close();
            due("filled so far", x.count(4), t == 3 ? 15 : 0);
        }
        due("due of the last term", x.due(0, 3), 4 + 15);
        due("due ahead of it", x.due(0, 2), 3);
        due("filled for 0", x.hand(0, 3), 15);
        due("1 has enough", x.hand(1, 3), 0);
        dueHand(x, 0, 0, 0, 25);
        closeTo(x, 8);
        due("another year", x.hand(0, 3), 15 + 1000);
        due("another year", x.due(0, 7), 1000);
        due("another year", x.hand(1, 3), 7);
        due("filled", x.count(4), 15 + 1000 + 7);
        due("a floor takes nothing", x.has(1, 0), 0);
        due("but lines go through it", x.has(1, 1), 4 * COIN);
        due("of its works alone", x.has(0, 1), 0);
        due("nothing in it", x.has(1, 2), 0);
    }

    private static void dues() {
        part = "promise 8";
        SongOffice x = office();
        brings(x, 0, 6);
        due("not closed", x.due(0, 0), NONE);
        x.close();
        due("due", x.due(0, 0), 6);
        due("none due", x.due(11, 0), 0);
        due("hand -1", x.due(-1, 0), NONE);
        due("hand 12", x.due(12, 0), NONE);
        due("term -1", x.due(0, -1), NONE);
        due("term 1", x.due(0, 1), NONE);
        due("term 40", x.due(0, 40), NONE);
        closeTo(x, 40);
        due("term 39", x.due(0, 39), 0);
        due("term 40", x.due(0, 40), NONE);
    }

    private static void handAnswers() {
        part = "promise 9";
        SongOffice x = new SongOffice();
        x.share(0, 0, 0, 1, 11, 999, NONE, 0);
        brings(x, 0, 1001);
        x.close();
        dueHand(x, 0, 1_000, 0, 1);
        dueHand(x, 11, 999_000, 0, 999);
        for (int what : new int[] {-1, 5, LOW, HIGH}) {
            due("hand(0, " + what + ")", x.hand(0, what), NONE);
        }
        for (int what = 0; what < 5; what++) {
            due("hand(-1, " + what + ")", x.hand(-1, what), NONE);
            due("hand(12, " + what + ")", x.hand(12, what), NONE);
        }
        x.mend(0, 0, 1000, 0, 0, false);
        due("owed can be below 0", x.hand(0, 4), -1_000);
        x.mend(0, 0, 0, 0, 0, false);
        due("owed can be below 0", x.hand(0, 4), -1_001_000);
        x.settle();
        due("the purse can be below 0", x.hand(0, 0), -1_000_000);
    }

    private static void hasAnswers() {
        part = "promise 10";
        SongOffice x = office();
        x.bargain(SPLIT, 0, 1, 0, 100, 0, 0, 1);
        x.bargain(ADVANCE, 0, 1, 0, 50, 0, 0, 0);
        x.bargain(RESERVE, 1, 2, 0, 100, 8, 0, 0);
        due("all is to come", x.has(1, 2), 50 * COIN);
        for (int t = 0; t < 3; t++) {
            brings(x, 0, 10);
            brings(x, 1, 10 * (t + 1));
            x.close();
        }
        long[][] want = {{3 * COIN, 30 * COIN, 0}, {27 * COIN, 27 * COIN, 23 * COIN}, {6 * COIN, 60 * COIN, 6 * COIN}};
        for (int n = 0; n < want.length; n++) {
            for (int what = 0; what < 3; what++) {
                due("has(" + n + ", " + what + ")", x.has(n, what), want[n][what]);
            }
            for (int what : new int[] {LOW, -1, 3, 19, 23, 59, 60, HIGH}) {
                due("has(" + n + ", " + what + ")", x.has(n, what), 0);
            }
            for (int t = 0; t < 3; t++) {
                due("bag " + t, x.has(n, 20 + t), n == 2 ? (t + 1) * COIN : 0);
            }
        }
        due("no such bargain", x.has(3, 0), NONE);
        due("no such bargain", x.has(-1, 0), NONE);
        due("no such bargain", x.has(3, 99), NONE);
        due("no such bargain", x.has(HIGH, 20), NONE);
    }

    private static void toldAnswers() {
        part = "promise 11";
        SongOffice x = office();
        x.report(1, 4, 5, 6, true);
        x.report(0, 7, 8, 9, false);
        int[][] want = {{7, 0, 0, 1, 1}, {4, 5, 6, 2, 0}, {0, 0, 0, 0, NONE}};
        for (int round = 0; round < 2; round++) {
            for (int w = 0; w < 3; w++) {
                for (int what = 0; what < 5; what++) {
                    due("told(0, " + w + ", " + what + ")", x.told(0, w, what), want[w][what]);
                }
            }
            due("what -1", x.told(0, 0, -1), NONE);
            due("what 5", x.told(0, 0, 5), NONE);
            due("work -1", x.told(0, -1, 0), NONE);
            due("work 12", x.told(0, 12, 0), NONE);
            due("term -1", x.told(-1, 0, 0), NONE);
            due("a term to come", x.told(round + 1, 0, 0), NONE);
            due("term 40", x.told(40, 0, 0), NONE);
            x.close();
        }
        x.report(0, 1, 2, 3, true);
        x.report(0, 1, 2, 3, false);
        due("b is gone", x.told(2, 0, 1), 0);
        due("c is gone", x.told(2, 0, 2), 0);
        x.tear(0);
        due("told and open", x.told(2, 0, 3), 5);
        due("what was told", x.told(2, 0, 0), 1);
        x.report(1, 1, 2, 3, true);
        due("told by days and open", x.told(2, 1, 3), 6);
        due("not told and open", x.told(2, 2, 3), 4);
        due("place", x.told(2, 1, 4), 1);
        closeTo(x, 40);
        due("term 39", x.told(39, 0, 3), 0);
        due("term 40", x.told(40, 0, 3), NONE);
    }

    private static void mending() {
        part = "promise 12";
        SongOffice x = office();
        alone(x, 2, 0, 2);
        brings(x, 0, 5);
        due("not closed", x.mend(0, 0, 6, 0, 0, false), false);
        x.close();
        due("term -1", x.mend(-1, 0, 6, 0, 0, false), false);
        due("term 1", x.mend(1, 0, 6, 0, 0, false), false);
        due("no such work", x.mend(0, -1, 6, 0, 0, false), false);
        due("no such work", x.mend(0, 12, 6, 0, 0, false), false);
        due("no shares", x.mend(0, 3, 6, 0, 0, false), false);
        due("a below 0", x.mend(0, 0, -1, 0, 0, false), false);
        due("a above", x.mend(0, 0, 1_000_001, 0, 0, false), false);
        due("b below 0", x.mend(0, 0, 0, -1, 0, true), false);
        due("b above", x.mend(0, 0, 0, 1_000_001, 0, true), false);
        due("c below 0", x.mend(0, 0, 0, 0, -1, true), false);
        due("c above", x.mend(0, 0, 0, 0, 1_000_001, true), false);
        due("nothing owed", x.owe(), 0);
        due("mended", x.mend(0, 0, 6, LOW, HIGH, false), true);
        due("told", x.told(0, 0, 0), 6);
        due("as it stands", x.due(0, 0), 5);
        due("owed", x.hand(0, 4), COIN);
        due("one that was not told", x.mend(0, 2, 1, 2, 4, true), true);
        due("behind the others", x.told(0, 2, 4), 1);
        due("by days", x.told(0, 2, 3), 2);
        due("another behind", x.mend(0, 1, 9, 0, 0, false), true);
        due("another behind", x.told(0, 1, 4), 2);
        due("at its place", x.mend(0, 2, 3, 0, 0, false), true);
        due("at its place", x.told(0, 2, 4), 1);
        due("in all", x.told(0, 2, 3), 1);
        due("owed to 2", x.hand(2, 4), 3 * COIN);
        due("owed to all", x.owe(), 13 * COIN);
        alone(x, 4, 200, 4);
        due("shares of a later day", x.mend(0, 4, 8, 0, 0, false), true);
        due("ahead of the first set", x.hand(4, 4), 8 * COIN);
    }

    private static void mendingWhatWasTorn() {
        part = "promise 12, torn";
        SongOffice x = office();
        alone(x, 2, 0, 2);
        brings(x, 1, 4);
        brings(x, 0, 3);
        x.tear(1);
        x.close();
        due("open ones are not owed", x.owe(), 0);
        x.mend(0, 0, 4, 0, 0, false);
        due("others open still", x.told(0, 1, 3), 5);
        due("what was told of an open one stays out", x.owe(), COIN);
        due("mended", x.mend(0, 1, 4, 0, 0, false), true);
        due("not open then", x.told(0, 1, 3), 1);
        due("at its place", x.told(0, 1, 4), 0);
        due("owed", x.hand(1, 4), 4 * COIN);
        due("not told, open", x.told(0, 2, 3), 4);
        x.mend(0, 2, 1, 1, 1, true);
        due("told by days, not open", x.told(0, 2, 3), 2);
        due("behind the others", x.told(0, 2, 4), 2);
        due("the next one is not told", x.told(0, 3, 3), 4);
        due("owed", x.owe(), 8 * COIN);
        due("the term is whole", x.count(6), 12);
    }

    private static void owing() {
        part = "promise 13";
        SongOffice x = office();
        x.bargain(SPLIT, 0, 1, 90, 500, 0, 0, 3);
        x.bargain(ADVANCE, 1, 2, 0, 10, 0, 0, 0);
        x.bargain(FLOOR, 0, 1, 0, 12, 0, 0, 0);
        brings(x, 0, 3);
        brings(x, 1, 4);
        x.close();
        brings(x, 0, 4);
        brings(x, 1, 8);
        x.close();
        due("nothing", x.owe(), 0);
        x.mend(0, 0, 5, 0, 0, false);
        due("the bargain is not from there", x.hand(0, 4), 2 * COIN);
        due("the bargain is not from there", x.hand(3, 4), 0);
        x.mend(1, 0, 5, 0, 0, false);
        due("half", x.hand(0, 4), 2_500_000);
        due("half", x.hand(3, 4), 500_000);
        x.mend(0, 1, 7, 0, 0, false);
        due("the advance is back sooner", x.hand(1, 4), 3 * COIN);
        x.mend(0, 1, 1, 0, 0, false);
        due("the advance is back later", x.hand(1, 4), -2 * COIN);
        due("all", x.owe(), COIN);
        closeTo(x, 4);
        due("the floor had filled it", x.hand(0, 3), 7);
        due("less is filled anew: the floor eats it", x.hand(0, 4), 500_000);
        x.mend(1, 0, 1, 0, 0, false);
        due("more is filled anew", x.hand(0, 4), 500_000);
        due("as it stands", x.hand(0, 3), 7);
    }

    private static void owingWithSentBack() {
        part = "promise 13, sent back";
        SongOffice x = office();
        x.bargain(RESERVE, 0, 1, 0, 500, 2, 0, 0);
        x.sent(0, 1);
        brings(x, 0, 10);
        x.close();
        dueHand(x, 0, 0, 0, 4);
        x.sent(0, 7);
        due("debt", x.hand(0, 1), 2 * COIN);
        due("nothing owed", x.owe(), 0);
        x.mend(0, 0, 20, 0, 0, false);
        due("anew: 9 due, a bag of 3, no debt", x.hand(0, 4), 7 * COIN);
        x.mend(0, 0, 0, 0, 0, false);
        due("anew: a debt of 8", x.hand(0, 4), -10 * COIN);
        x.mend(0, 0, 10, 0, 0, false);
        due("nothing owed", x.owe(), 0);
        brings(x, 0, 4);
        x.close();
        dueHand(x, 0, 0, 0, 4);
        due("still nothing owed", x.owe(), 0);
        x.mend(0, 0, 14, 0, 0, false);
        due("anew: 6 and 2 due, the bag gave all", x.hand(0, 4), 4 * COIN);
        due("sent of the term", x.sent(0, 5), 3 * COIN);
        due("it counts for both", x.hand(0, 4), 4 * COIN);
    }

    private static void settling() {
        part = "promise 14";
        SongOffice x = office();
        brings(x, 0, 10);
        brings(x, 1, 10);
        x.close();
        due("nothing owed", x.settle(), 0);
        due("settled", x.count(7), 1);
        x.mend(0, 0, 13, 0, 0, false);
        x.mend(0, 1, 4, 0, 0, false);
        due("two hands", x.settle(), 2);
        due("settled", x.count(7), 2);
        due("came in", x.count(3), 17 * COIN);
        dueHand(x, 0, 3 * COIN, 0, 10);
        dueHand(x, 1, -6 * COIN, 0, 10);
        due("due stays", x.due(0, 0), 10);
        due("nothing owed", x.owe(), 0);
        due("nothing owed", x.settle(), 0);
        due("lines stay", x.line(0, 3), 10 * COIN);
        brings(x, 0, 1);
        brings(x, 1, 4);
        x.close();
        due("more", x.due(0, 1), 4);
        due("a purse below 0 gives nothing", x.due(1, 1), 0);
        dueHand(x, 1, -2 * COIN, 0, 10);
        due("nothing owed", x.owe(), 0);
        brings(x, 1, 5);
        x.close();
        due("above 0 again", x.due(1, 2), 3);
        due("came in", x.count(3), 27 * COIN);
    }

    private static void settlingDebts() {
        part = "promise 14, debts";
        SongOffice x = office();
        x.bargain(RESERVE, 0, 1, 0, 500, 8, 0, 0);
        brings(x, 0, 10);
        x.close();
        x.sent(0, 8);
        dueHand(x, 0, 0, 3 * COIN, 5);
        x.mend(0, 0, 14, 0, 0, false);
        due("anew: due 7, debt 1, against due 5, debt 3", x.hand(0, 4), 4 * COIN);
        due("settle", x.settle(), 1);
        dueHand(x, 0, 2 * COIN, COIN, 5);
        due("nothing owed", x.hand(0, 4), 0);
        x.mend(0, 0, 4, 0, 0, false);
        due("anew: due 2, debt 6", x.hand(0, 4), -10 * COIN);
        due("settle", x.settle(), 1);
        dueHand(x, 0, -3 * COIN, 6 * COIN, 5);
        due("nothing owed", x.hand(0, 4), 0);
        brings(x, 0, 8);
        x.close();
        dueHand(x, 0, 0, 5 * COIN, 5);
        due("anew it paid 4 of the debt", x.hand(0, 4), 0);
        due("nobody is owed", x.settle(), 0);
        dueHand(x, 0, -3 * COIN, 2 * COIN, 5);
        brings(x, 0, 2);
        x.close();
        dueHand(x, 0, -2 * COIN, 2 * COIN, 5);
    }

    private static void settlingBargains() {
        part = "promise 14, bargains";
        SongOffice x = office();
        x.bargain(ADVANCE, 0, 1, 0, 10, 0, 0, 0);
        x.bargain(STEP, 1, 2, 0, 500, 10, 100, 2);
        x.bargain(RESERVE, 1, 2, 0, 100, 3, 0, 0);
        x.bargain(FLOOR, 0, 1, 0, 5, 0, 0, 0);
        for (int t = 0; t < 4; t++) {
            brings(x, 0, 2);
            brings(x, 1, 2);
            x.close();
        }
        due("filled", x.hand(0, 3), 5);
        due("the bag of term 0 went", x.has(2, 20), 0);
        x.mend(3, 0, 7, 0, 0, false);
        x.mend(1, 1, 22, 0, 0, false);
        due("as it stands", x.has(0, 0), 8 * COIN);
        due("anew: 3 due, 2 filled, all in all 5", x.hand(0, 4), 0);
        due("hand 2: 6.8 against 4", x.hand(2, 4), 2_800_000);
        due("settle", x.settle(), 2);
        due("advance", x.has(0, 0), 10 * COIN);
        due("advance", x.has(0, 1), 13 * COIN);
        due("advance", x.has(0, 2), 0);
        due("step came", x.has(1, 1), 28 * COIN);
        due("step passed", x.has(1, 0), 6_800_000);
        due("bag 0", x.has(2, 20), 0);
        due("bag 1", x.has(2, 21), 1_660_000);
        due("filled is less", x.hand(0, 3), 2);
        due("filled is less", x.count(4), 2);
        due("came in", x.count(3), 41 * COIN);
        brings(x, 0, 1);
        x.close();
        due("the advance is back", x.due(0, 4), 1);
    }

    private static void lineAnswers() {
        part = "promise 15";
        SongOffice x = office();
        x.share(2, 0, 4, 999, 5, 1, NONE, 0);
        x.bargain(ADVANCE, 5, 4, 0, 1, 0, 0, 0);
        brings(x, 2, 1);
        brings(x, 0, 0);
        x.report(1, 2, 0, 3, true);
        due("none yet", x.line(0, 0), NONE);
        x.close();
        dueLine(x, 0, 2, 4, NONE, 999_000, 999_000, NONE);
        dueLine(x, 1, 2, 5, NONE, 1_000, 0, NONE);
        dueLine(x, 2, 1, 1, NONE, 2 * COIN, 2 * COIN, NONE);
        dueLine(x, 3, 1, 1, NONE, 3 * COIN, 3 * COIN, NONE);
        dueLine(x, 4, NONE, NONE, NONE, NONE, NONE);
        due("line -1", x.line(-1, 0), NONE);
        due("what -1", x.line(0, -1), NONE);
        due("lines", x.count(2), 4);
        x.mend(0, 0, 5, 0, 0, false);
        x.owe();
        x.settle();
        due("lines of the latest close", x.count(2), 4);
        brings(x, 0, 1);
        x.close();
        dueLine(x, 0, 0, 0, NONE, COIN, COIN);
        due("one line", x.count(2), 1);
        due("line 1", x.line(1, 3), NONE);
        x.close();
        due("no lines", x.count(2), 0);
        due("no lines", x.line(0, 0), NONE);
    }

    private static void manyLines() {
        part = "promise 15, many";
        SongOffice x = new SongOffice();
        for (int w = 0; w < 12; w++) {
            x.share(w, 0, 0, 400, 1, 300, 2, 300);
            x.report(w, 10, 20, 30, true);
        }
        for (int n = 0; n < 6; n++) {
            x.bargain(SPLIT, n % 3, 4095, 0, 100, 0, 0, 3 + n);
        }
        due("close", x.close(), 0);
        due("all lines", x.count(2), 36 * 9);
        for (int n = 6; n < 24; n++) {
            x.bargain(SPLIT, n % 3, 4095, 90, 100, 0, 0, 3 + n % 9);
        }
        for (int w = 11; w >= 0; w--) {
            x.report(w, 1000, 2000, 3000, true);
        }
        x.close();
        due("all lines", x.count(2), 36 * 27);
        due("line 599", x.line(599, 0), 11 - 599 / 81);
        due("line 599 has mites", x.line(599, 3) > 0, true);
        due("line 600", x.line(600, 0), NONE);
        due("line 600", x.line(600, 4), NONE);
    }

    private static void counts() {
        part = "promise 16";
        SongOffice x = office();
        x.bargain(FLOOR, 3, 1, 0, 9, 0, 0, 0);
        x.bargain(SPLIT, 0, 1, 0, 500, 0, 0, 3);
        x.sent(5, 3);
        x.sent(5, 4);
        brings(x, 0, 2);
        brings(x, 1, 3);
        closeTo(x, 4);
        x.settle();
        x.tear(7);
        long[] want = {4, 2, 0, 5 * COIN, 8, 7 * COIN, 7, 1};
        for (int what = 0; what < want.length; what++) {
            due("count(" + what + ")", x.count(what), want[what]);
        }
        for (int what : new int[] {LOW, -1, 8, HIGH}) {
            due("count(" + what + ")", x.count(what), NONE);
        }
    }

    private static void theEnd() {
        part = "no term left";
        SongOffice x = office();
        x.bargain(RESERVE, 0, 1, 0, 500, 8, 0, 0);
        closeTo(x, 39);
        due("last day", alone(x, 5, 3599, 5), 1);
        due("last day", x.bargain(FLOOR, 5, 1, 3599, 4, 0, 0, 0), 1);
        brings(x, 0, 8);
        due("close", x.close(), 39);
        due("filled", x.hand(5, 3), 4);
        due("close", x.close(), NONE);
        due("count(0)", x.count(0), 40);
        due("count(6)", x.count(6), NONE);
        due("report", brings(x, 0, 1), false);
        due("tear", x.tear(0), false);
        due("share", alone(x, 6, 3599, 0), NONE);
        due("bargain", x.bargain(FLOOR, 0, 1, 3599, 1, 0, 0, 0), NONE);
        due("sent back still", x.sent(0, 5), COIN);
        due("bag of term 39", x.has(0, 59), 0);
        due("nothing owed", x.owe(), 0);
        due("mended still", x.mend(39, 0, 10, 0, 0, false), true);
        due("owed", x.hand(0, 4), 2 * COIN);
        due("settle", x.settle(), 1);
        dueHand(x, 0, COIN, 0, 4);
        due("lines stay", x.line(0, 3), 8 * COIN);
    }

    private static void fullOffice() {
        part = "full office";
        SongOffice x = office();
        for (int n = 0; n < 12; n++) {
            x.bargain(FLOOR, n, 4095, 0, n + 1, 0, 0, 0);
        }
        for (int n = 12; n < 24; n++) {
            due("number", x.bargain(RESERVE, 0, 4095, 0, 500, 8, 0, 0), n);
        }
        for (int t = 0; t < 40; t++) {
            brings(x, 0, 4096);
            due("close()", x.close(), t);
        }
        due("floors of hand 11 in ten years", x.hand(11, 3), 120);
        due("all floors: 2 to 12, ten times", x.count(4), 770);
        due("eight bags of 4,095 coins, and one more", x.sent(0, 8 * 4095 + 1), COIN);
        for (int n = 12; n < 24; n++) {
            due("bags of " + n, x.has(n, 2), 0);
        }
        due("debt", x.hand(0, 1), COIN);
        due("nothing owed", x.owe(), 0);
    }

    private static void wildArguments() {
        part = "wild arguments";
        int[] wild = {LOW, -1, 0, 12, 40, 3600, HIGH};
        SongOffice x = office();
        x.close();
        for (int a : wild) {
            for (int b : wild) {
                x.due(a, b);
                x.hand(a, b);
                x.has(a, b);
                x.line(a, b);
                x.told(a, b, 0);
                x.told(0, a, b);
                if (a != 0) {
                    due("sent(" + a + ", 0)", x.sent(a, 0), NONE);
                    due("share", x.share(a, b, a, a, b, b, b, b), NONE);
                    due("share", x.share(0, a, 0, HIGH, 1, b, 2, HIGH), NONE);
                    due("bargain", x.bargain(a, b, b, b, b, b, b, b), NONE);
                    due("mend", x.mend(a, 0, b, b, b, true), false);
                }
            }
        }
    }
}
