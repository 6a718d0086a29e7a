/**
 * Each promise of the document by its number: ordinary inputs, the edges that the document names, wrong inputs.
 * The answers that are due were worked out by hand from the document.
 */
public final class PromisesTest {
    private static final int NONE = -6, UNKNOWN = -1, OUTSIDE = -2, FULL = -4, NO = -5, REFUSED = -2000000000;
    private static final long LOST = -1000000000000000000L;
    private static final int MIN = Integer.MIN_VALUE, MAX = Integer.MAX_VALUE;

    private static int wrong = 0;
    private static int promise = 0;

    private static void due(String what, long got, long want) {
        if (got != want) {
            wrong++;
            System.out.println("promise " + promise + ": " + what + " answered " + got + ", due is " + want);
        }
    }

    private static void fraction(String what, long upper, long lower, long wantUpper, long wantLower) {
        due(what + ", upper", upper, wantUpper);
        due(what + ", lower", lower, wantLower);
    }

    private static SoldMatches withMatches(int n) {
        SoldMatches x = new SoldMatches();
        for (int i = 0; i < n; i++) {
            x.match(i % 8, (i + 1) % 8, i % 6);
        }
        return x;
    }

    private static int sayAll(SoldMatches x, String text) {
        int n = -1;
        for (int i = 0; i < text.length(); i++) {
            n = x.say(text.charAt(i));
        }
        return n;
    }

    private static void newObject() {
        promise = 1;
        SoldMatches x = new SoldMatches();
        for (int what = 0; what <= 5; what++) {
            due("told " + what, x.told(what), 0);
        }
        int[] atFirst = {20, 3, 2, 2, 2};
        int[] other = {1, 1, 1, 1, 1};
        for (int which = 0; which < 5; which++) {
            due("number " + which, x.set(which, other[which]), atFirst[which]);
        }
        for (int i = 0; i < 8; i++) {
            due("skill of " + i, x.skill(i, 0), 50);
            due("taken of " + i, x.take(i, 1), 0);
        }
        for (int i = 0; i < 10; i++) {
            due("owner of " + i, x.own(i, 9 - i), i);
            due("debts of " + i, x.debts(i, 1), 0);
            due("late of " + i, x.late(i, 1, 0), LOST - 3);
            due("gain of " + i, x.gain(i), 0);
            due("one of " + i, x.one(i), 1 << i);
        }
        due("ring", x.ring(0), UNKNOWN);
        due("table", x.table(-1), 0);
        due("table 0", x.table(0), NONE);
        due("untrue", x.untrue(0), 0);
        due("untrue, how many", x.untrue(1), 0);
        due("untrue, sure", x.untrue(2), 0);
        due("looks", x.looks(1000, 0), 0);
        due("fault", x.fault(), 0);
        due("rule", x.rule(), NO);
        due("wipe", x.wipe(), 0);
        SoldMatches y = withMatches(1);
        due("another object has no match of the first one", new SoldMatches().told(0), 0);
        due("hour", y.ofMatch(0, 6), 0);
        due("cost", y.ofMatch(0, 7), 10);
        due("price", y.price(0, 5, 2, 0), 0);
        due("goal", y.goal(0, 5, 0), 0);
        due("proof", y.proof(0, 0), 0);
    }

    private static void skill() {
        promise = 2;
        SoldMatches x = new SoldMatches();
        due("0", x.skill(0, 0), 50);
        due("again", x.skill(0, 99), 0);
        due("last", x.skill(7, 98), 50);
        due("too much", x.skill(0, 100), OUTSIDE);
        due("too little", x.skill(0, -1), OUTSIDE);
        due("no side", x.skill(8, 5), UNKNOWN);
        due("no side", x.skill(-1, 100), UNKNOWN);
        due("extremes", x.skill(MIN, MAX), UNKNOWN);
        due("refused ones change nothing", x.skill(0, 1), 99);
    }

    private static void match() {
        promise = 3;
        SoldMatches x = new SoldMatches();
        due("both are one", x.match(3, 3, 9), UNKNOWN);
        due("no side", x.match(8, 0, 0), UNKNOWN);
        due("no side", x.match(0, -1, 0), UNKNOWN);
        due("no side", x.match(0, 8, 0), UNKNOWN);
        due("referee", x.match(0, 1, 6), OUTSIDE);
        due("referee", x.match(0, 1, -1), OUTSIDE);
        due("none yet", x.told(0), 0);
        for (int i = 0; i < 12; i++) {
            due("number", x.match(7, i % 7, 5), i);
        }
        due("full", x.match(0, 1, 0), FULL);
        due("outside ahead of full", x.match(0, 1, 6), OUTSIDE);
        due("unknown ahead of full", x.match(1, 1, 0), UNKNOWN);
        due("twelve", x.told(0), 12);
        due("home", x.ofMatch(11, 0), 7);
        due("guest", x.ofMatch(11, 1), 4);
        due("referee", x.ofMatch(11, 2), 5);
    }

    private static void goal() {
        promise = 4;
        SoldMatches x = withMatches(2);
        due("first", x.goal(1, 0, 2), 0);
        due("again", x.goal(1, 0, 1), 2);
        due("the other match", x.goal(0, 0, 0), 0);
        due("last quarter", x.goal(1, 5, 1), 0);
        due("quarter", x.goal(1, 6, 1), OUTSIDE);
        due("quarter", x.goal(1, -1, 1), OUTSIDE);
        due("who", x.goal(1, 0, 3), OUTSIDE);
        due("who", x.goal(1, 0, -1), OUTSIDE);
        due("no match", x.goal(2, 9, 9), UNKNOWN);
        due("no match", x.goal(-1, 0, 0), UNKNOWN);
        due("home", x.ofMatch(1, 3), 2);
        due("taken back", x.goal(1, 0, 0), 1);
        due("home", x.ofMatch(1, 3), 1);
    }

    private static void ofMatch() {
        promise = 5;
        SoldMatches x = new SoldMatches();
        x.match(4, 6, 3);
        x.goal(0, 0, 2);
        x.goal(0, 2, 2);
        x.goal(0, 5, 1);
        x.begin(0, 999);
        x.cost(0, 77);
        int[] want = {4, 6, 3, 1, 2, 2, 999, 77};
        for (int what = 0; what < 8; what++) {
            due("what " + what, x.ofMatch(0, what), want[what]);
        }
        x.goal(0, 1, 1);
        due("none won", x.ofMatch(0, 5), 1);
        x.goal(0, 3, 1);
        due("home won", x.ofMatch(0, 5), 0);
        due("what", x.ofMatch(0, 8), OUTSIDE);
        due("what", x.ofMatch(0, -1), OUTSIDE);
        due("no match", x.ofMatch(1, 8), UNKNOWN);
        due("no match", x.ofMatch(MIN, 0), UNKNOWN);
    }

    private static void likely() {
        promise = 6;
        SoldMatches x = withMatches(1);
        fraction("one quarter", x.likely(0, 5, 3, 3, 0, 0), x.likely(0, 5, 3, 3, 0, 1), 1, 5);
        fraction("one quarter, none", x.likely(0, 5, 3, 3, 1, 0), x.likely(0, 5, 3, 3, 1, 1), 3, 5);
        fraction("lead too great", x.likely(0, 5, 6, 0, 0, 0), x.likely(0, 5, 6, 0, 0, 1), 1, 1);
        fraction("lag too great", x.likely(0, 5, 0, 6, 1, 0), x.likely(0, 5, 0, 6, 1, 1), 0, 1);
        fraction("all to be made up", x.likely(0, 0, 0, 6, 1, 0), x.likely(0, 0, 0, 6, 1, 1), 1, 15625);
        fraction("over", x.likely(0, 6, 1, 1, 1, 0), x.likely(0, 6, 1, 1, 1, 1), 1, 1);
        x.skill(0, 47);
        fraction("a quarter of -3 is cut to 0", x.likely(0, 5, 0, 0, 0, 0), x.likely(0, 5, 0, 0, 0, 1), 1, 5);
        x.skill(0, 46);
        fraction("a quarter of -4", x.likely(0, 5, 0, 0, 0, 0), x.likely(0, 5, 0, 0, 0, 1), 19, 100);
        fraction("and of 4", x.likely(0, 5, 0, 0, 2, 0), x.likely(0, 5, 0, 0, 2, 1), 21, 100);
        x.set(0, 0);
        x.skill(0, 99);
        x.skill(1, 0);
        fraction("24 of home", x.likely(0, 5, 0, 0, 0, 0), x.likely(0, 5, 0, 0, 0, 1), 6, 25);
        fraction("1 at least", x.likely(0, 5, 0, 0, 2, 0), x.likely(0, 5, 0, 0, 2, 1), 1, 100);
        x.set(0, 40);
        fraction("45 at most", x.likely(0, 5, 0, 0, 0, 0), x.likely(0, 5, 0, 0, 0, 1), 9, 20);
        due("done", x.likely(0, 7, 0, 0, 0, 0), LOST - 2);
        due("done", x.likely(0, -1, 0, 0, 0, 0), LOST - 2);
        due("home", x.likely(0, 0, 7, 0, 0, 0), LOST - 2);
        due("guest", x.likely(0, 0, 0, -1, 0, 0), LOST - 2);
        due("end", x.likely(0, 0, 0, 0, 3, 0), LOST - 2);
        due("part", x.likely(0, 0, 0, 0, 0, 2), LOST - 2);
        due("no match", x.likely(1, 7, 0, 0, 0, 0), LOST - 1);
    }

    private static void set() {
        promise = 7;
        int[] least = {0, 0, 1, 1, 1};
        int[] most = {40, 89, 10, 20, 4};
        int[] first = {20, 3, 2, 2, 2};
        SoldMatches x = new SoldMatches();
        for (int which = 0; which < 5; which++) {
            due("too little " + which, x.set(which, least[which] - 1), OUTSIDE);
            due("too much " + which, x.set(which, most[which] + 1), OUTSIDE);
            due("least " + which, x.set(which, least[which]), first[which]);
            due("most " + which, x.set(which, most[which]), least[which]);
            due("again " + which, x.set(which, most[which]), most[which]);
        }
        due("which", x.set(5, 2), OUTSIDE);
        due("which", x.set(-1, 2), OUTSIDE);
        due("extremes", x.set(MAX, MIN), OUTSIDE);
    }

    private static void price() {
        promise = 8;
        SoldMatches x = withMatches(2);
        due("first", x.price(0, 0, 0, 100), 0);
        due("again", x.price(0, 0, 0, 10000), 100);
        due("shut", x.price(0, 0, 0, 0), 10000);
        due("another quarter", x.price(0, 5, 0, 300), 0);
        due("another end", x.price(0, 5, 2, 400), 0);
        due("another match", x.price(1, 5, 2, 500), 0);
        due("kept", x.price(0, 5, 0, 0), 300);
        due("99", x.price(0, 0, 0, 99), OUTSIDE);
        due("1", x.price(0, 0, 0, 1), OUTSIDE);
        due("-1", x.price(0, 0, 0, -1), OUTSIDE);
        due("10001", x.price(0, 0, 0, 10001), OUTSIDE);
        due("quarter", x.price(0, 6, 0, 100), OUTSIDE);
        due("end", x.price(0, 0, 3, 100), OUTSIDE);
        due("end", x.price(0, 1, -1, 100), OUTSIDE);
        due("no match", x.price(2, 6, 3, 99), UNKNOWN);
    }

    private static void lean() {
        promise = 9;
        SoldMatches x = withMatches(1);
        due("shut", x.lean(0, 3, 1), 0);
        x.price(0, 5, 0, 300);
        due("333 less 200", x.lean(0, 5, 0), 133);
        x.price(0, 5, 0, 10000);
        due("10 less 200", x.lean(0, 5, 0), -190);
        x.price(0, 5, 0, 9091);
        due("10.9 less 200", x.lean(0, 5, 0), -190);
        x.goal(0, 5, 2);
        due("goals of the quarter itself are not yet there", x.lean(0, 5, 0), -190);
        x.goal(0, 4, 1);
        due("those ahead of it are", x.lean(0, 5, 0), 10 - 800);
        x.price(0, 4, 1, 150);
        due("666 less 1000 times .44", x.lean(0, 4, 1), 226);
        x.price(0, 0, 0, 100);
        due("1000 less 372 (.372352)", x.lean(0, 0, 0), 628);
        due("quarter", x.lean(0, 6, 0), REFUSED);
        due("end", x.lean(0, 0, 3), REFUSED);
        due("end", x.lean(0, 0, -1), REFUSED);
        due("no match", x.lean(1, 0, 0), REFUSED);
    }

    private static void greatest() {
        promise = 10;
        SoldMatches x = withMatches(1);
        due("none", x.greatest(0, 0), 0);
        due("the first", x.greatest(0, 1), 0);
        x.price(0, 0, 0, 10000);
        due("a shut one is greater", x.greatest(0, 0), 0);
        due("the next", x.greatest(0, 1), 1);
        x.price(0, 5, 2, 300);
        x.price(0, 5, 0, 300);
        due("lean", x.greatest(0, 0), 133);
        due("the first of two", x.greatest(0, 1), 50);
        x.price(0, 5, 0, 301);
        due("the other one", x.greatest(0, 1), 52);
        for (int i = 0; i < 18; i++) {
            x.price(0, i / 3, i % 3, 10000);
        }
        due("all below 0", x.greatest(0, 0) < 0 ? 1 : 0, 1);
        due("what", x.greatest(0, 2), REFUSED);
        due("what", x.greatest(0, -1), REFUSED);
        due("no match", x.greatest(1, 0), REFUSED);
    }

    private static void stake() {
        promise = 11;
        SoldMatches x = withMatches(1);
        due("hand", x.stake(10, 0, 3, 0, 1), UNKNOWN);
        due("hand", x.stake(-1, 0, 0, 0, 1), UNKNOWN);
        due("match", x.stake(0, 1, 0, 90, 1), UNKNOWN);
        due("end", x.stake(0, 0, 3, 0, 1), OUTSIDE);
        due("minute", x.stake(0, 0, 0, 90, 1), OUTSIDE);
        due("minute", x.stake(0, 0, 0, -1, 1), OUTSIDE);
        due("sum", x.stake(0, 0, 0, 0, 0), OUTSIDE);
        due("sum", x.stake(0, 0, 0, 0, 10001), OUTSIDE);
        for (int i = 0; i < 40; i++) {
            due("number", x.stake(9, 0, 2, 89, 10000), i);
        }
        due("full", x.stake(0, 0, 0, 0, 1), FULL);
        due("outside ahead of full", x.stake(0, 0, 0, 0, 0), OUTSIDE);
        due("forty", x.told(1), 40);
    }

    private static void gain() {
        promise = 12;
        SoldMatches x = withMatches(2);
        x.stake(4, 0, 1, 14, 33);
        due("shut: the sum is given back", x.gain(4), 0);
        x.price(0, 0, 1, 150);
        due("49 less 33", x.gain(4), 16);
        x.goal(0, 5, 1);
        due("lost", x.gain(4), -33);
        x.stake(4, 1, 1, 15, 10000);
        x.price(1, 0, 1, 200);
        due("minute 15 is of quarter 1", x.gain(4), -33);
        x.price(1, 1, 1, 10000);
        due("the greatest", x.gain(4), 990000 - 33);
        due("another hand", x.gain(5), 0);
        due("hand", x.gain(10), REFUSED);
        due("hand", x.gain(-1), REFUSED);
    }

    private static void answer() {
        promise = 13;
        SoldMatches x = withMatches(2);
        x.stake(0, 0, 0, 10, 100);
        x.stake(1, 0, 0, 13, 200);
        due("3 minutes, twice", x.answer(0, 1, 0), 1);
        due("not like", x.answer(0, 1, 1), 0);
        x.set(3, 1);
        due("like", x.answer(1, 0, 1), 1);
        x.set(1, 2);
        due("too far", x.answer(0, 1, 0), 0);
        x.set(1, 3);
        x.set(2, 1);
        due("too much", x.answer(0, 1, 0), 0);
        x.set(2, 2);
        x.stake(2, 0, 0, 10, 201);
        due("201 of 100 is more than twice", x.answer(2, 0, 0), 0);
        x.stake(3, 1, 0, 10, 100);
        x.stake(3, 0, 1, 10, 100);
        due("another match, another end", x.answer(0, 3, 0), 0);
        due("both are one", x.answer(2, 2, 7), UNKNOWN);
        due("hand", x.answer(0, 10, 0), UNKNOWN);
        due("hand", x.answer(-1, 0, 0), UNKNOWN);
        due("what", x.answer(0, 1, 2), OUTSIDE);
        due("what", x.answer(0, 1, -1), OUTSIDE);
        SoldMatches y = withMatches(1);
        // taken one by one as they come, 4's first would take 5's first and leave the second one alone
        y.stake(4, 0, 0, 10, 100);
        y.stake(5, 0, 0, 10, 100);
        y.stake(5, 0, 0, 12, 100);
        y.stake(4, 0, 0, 7, 100);
        due("the most pairs", y.answer(4, 5, 0), 2);
        due("the other way", y.answer(5, 4, 0), 2);
    }

    private static void one() {
        promise = 14;
        SoldMatches x = withMatches(1);
        x.set(3, 1);
        x.set(1, 1);
        x.stake(9, 0, 0, 10, 100);
        x.stake(0, 0, 0, 11, 100);
        x.stake(5, 0, 0, 12, 100);
        x.stake(6, 0, 0, 14, 100);
        due("by way of another", x.one(9), 1 | 1 << 5 | 1 << 9);
        due("too far off", x.one(6), 1 << 6);
        due("without stakes", x.one(3), 1 << 3);
        x.set(1, 2);
        due("nearer", x.one(6), 1 | 1 << 5 | 1 << 6 | 1 << 9);
        x.set(3, 2);
        due("more ties", x.one(9), 1 << 9);
        due("hand", x.one(10), UNKNOWN);
        due("hand", x.one(-1), UNKNOWN);
    }

    private static void meet() {
        promise = 15;
        SoldMatches x = new SoldMatches();
        due("both are one", x.meet(4, 4, 1000), UNKNOWN);
        due("person", x.meet(10, 4, 0), UNKNOWN);
        due("person", x.meet(4, -1, 0), UNKNOWN);
        due("hour", x.meet(4, 5, 1000), OUTSIDE);
        due("hour", x.meet(4, 5, -1), OUTSIDE);
        for (int i = 1; i <= 30; i++) {
            due("how many", x.meet(0, 9, i % 2 == 0 ? 0 : 999), i);
        }
        due("full", x.meet(0, 1, 0), FULL);
        due("outside ahead of full", x.meet(0, 1, 1000), OUTSIDE);
        due("thirty", x.told(2), 30);
        due("all are gone through", x.knew(0, 1, 9), 999);
    }

    private static void knew() {
        promise = 16;
        SoldMatches x = new SoldMatches();
        x.meet(1, 2, 50);
        x.meet(0, 1, 50);
        x.meet(0, 3, 999);
        x.meet(2, 1, 70);
        due("itself", x.knew(0, 50, 0), 50);
        due("at the hour", x.knew(0, 50, 1), 50);
        due("once by hours, as they were told", x.knew(0, 50, 2), 70);
        due("after the hour", x.knew(0, 51, 1), NONE);
        due("the last hour", x.knew(0, 999, 3), 999);
        due("back by the other way", x.knew(3, 0, 0), 999);
        due("never", x.knew(0, 0, 9), NONE);
        due("nothing is kept", x.knew(9, 0, 0), NONE);
        due("person", x.knew(10, 1000, 0), UNKNOWN);
        due("person", x.knew(0, 0, -1), UNKNOWN);
        due("hour", x.knew(0, 1000, 0), OUTSIDE);
        due("hour", x.knew(0, -1, 0), OUTSIDE);
    }

    private static void own() {
        promise = 17;
        SoldMatches x = new SoldMatches();
        due("its own number", x.own(7, 2), 7);
        due("again", x.own(7, 9), 2);
        due("hand", x.own(10, 0), UNKNOWN);
        due("hand", x.own(-1, 0), UNKNOWN);
        due("person", x.own(0, 10), UNKNOWN);
        due("person", x.own(0, -1), UNKNOWN);
        due("kept", x.own(0, 0), 0);
    }

    private static void begin() {
        promise = 18;
        SoldMatches x = withMatches(1);
        due("first", x.begin(0, 999), 0);
        due("again", x.begin(0, 0), 999);
        due("hour", x.begin(0, 1000), OUTSIDE);
        due("hour", x.begin(0, -1), OUTSIDE);
        due("no match", x.begin(1, 1000), UNKNOWN);
        due("kept", x.ofMatch(0, 6), 0);
    }

    private static void news() {
        promise = 19;
        SoldMatches x = withMatches(1);
        x.stake(0, 0, 0, 0, 1);
        x.begin(0, 5);
        due("none at first", x.explained(0, 0), 0);
        due("person", x.news(10, 1000), UNKNOWN);
        due("person", x.news(-1, 0), UNKNOWN);
        due("hour", x.news(0, 1000), OUTSIDE);
        due("hour", x.news(0, -1), OUTSIDE);
        due("still none", x.explained(0, 0), 0);
        due("news", x.news(0, 5), 1);
        due("asked for from now on", x.explained(0, 0), 1);
        x.knew(3, 0, 3);
        due("a question changes nothing", x.explained(0, 0), 1);
        due("other news", x.news(1, 0), 1);
        due("asked for from now on", x.explained(0, 0), 0);
    }

    private static void explained() {
        promise = 20;
        SoldMatches x = withMatches(2);
        x.begin(0, 999);
        x.meet(0, 1, 999);
        x.stake(1, 0, 0, 59, 1);
        x.stake(1, 0, 0, 60, 1);
        x.stake(2, 0, 0, 60, 1);
        x.stake(1, 1, 0, 89, 1);
        x.news(0, 999);
        due("by the hour", x.explained(0, 0), 2);
        due("not", x.explained(0, 1), 1);
        x.begin(0, 998);
        due("from minute 60 on the next hour", x.explained(0, 0), 1);
        x.own(2, 1);
        due("the person of the hand", x.explained(0, 0), 2);
        due("too early", x.explained(1, 0), 0);
        due("too early", x.explained(1, 1), 1);
        due("what", x.explained(0, 2), OUTSIDE);
        due("what", x.explained(0, -1), OUTSIDE);
        due("no match", x.explained(2, 2), UNKNOWN);
    }

    private static void moves() {
        promise = 21;
        SoldMatches x = new SoldMatches();
        due("most", x.moves(9, 200, 200), 1);
        due("none", x.moves(0, 0, 0), 1);
        due("too many", x.moves(0, 201, 0), OUTSIDE);
        due("too few", x.moves(0, -1, 0), OUTSIDE);
        due("more late ones", x.moves(0, 5, 6), OUTSIDE);
        due("fewer late ones", x.moves(0, 5, -1), OUTSIDE);
        due("player", x.moves(10, 201, 0), UNKNOWN);
        due("player", x.moves(-1, 1, 1), UNKNOWN);
        due("refused ones change nothing", x.late(0, 1, 0), LOST - 3);
    }

    private static void late() {
        promise = 22;
        SoldMatches x = new SoldMatches();
        x.moves(0, 1, 1);
        fraction("one of one", x.late(0, 8, 0), x.late(0, 8, 1), 2, 5);
        x.moves(0, 1, 0);
        fraction("none of one", x.late(0, 8, 0), x.late(0, 8, 1), 1, 1);
        x.moves(0, 12, 12);
        fraction("all twelve", x.late(0, 19, 0), x.late(0, 19, 1), 2213314919066161L, 4096000000000000L);
        x.moves(0, 13, 13);
        fraction("all of more", x.late(0, 10, 0), x.late(0, 10, 1), 1, 4096);
        x.moves(0, 13, 12);
        fraction("11 of 12 (144 by 13)", x.late(0, 10, 0), x.late(0, 10, 1), 13, 4096);
        x.moves(0, 200, 16);
        fraction("none of 12 (192 by 200)", x.late(0, 10, 0), x.late(0, 10, 1), 1, 1);
        x.moves(0, 200, 17);
        fraction("1 of 12 (204 by 200)", x.late(0, 10, 0), x.late(0, 10, 1), 4095, 4096);
        due("w", x.late(0, 0, 0), LOST - 2);
        due("w", x.late(0, 20, 0), LOST - 2);
        due("part", x.late(0, 1, 2), LOST - 2);
        due("part", x.late(0, 1, -1), LOST - 2);
        due("player", x.late(10, 0, 0), LOST - 1);
        due("no moves", x.late(1, 1, 0), LOST - 3);
        due("outside ahead of no moves", x.late(1, 0, 0), LOST - 2);
    }

    private static void debts() {
        promise = 23;
        SoldMatches x = new SoldMatches();
        due("first", x.debts(9, 1000), 0);
        due("again", x.debts(9, 0), 1000);
        due("too many", x.debts(9, 1001), OUTSIDE);
        due("too few", x.debts(9, -1), OUTSIDE);
        due("player", x.debts(10, 1001), UNKNOWN);
        due("player", x.debts(-1, 0), UNKNOWN);
        due("kept", x.debts(9, 5), 0);
    }

    private static void act() {
        promise = 24;
        SoldMatches x = withMatches(1);
        due("players", x.act(0, 0), OUTSIDE);
        due("players", x.act(0, 1024), OUTSIDE);
        due("players", x.act(0, MIN), OUTSIDE);
        due("match", x.act(1, 0), UNKNOWN);
        for (int i = 0; i < 12; i++) {
            due("number", x.act(0, 1023), i);
        }
        due("full", x.act(0, 1), FULL);
        due("outside ahead of full", x.act(0, 0), OUTSIDE);
        due("twelve", x.told(3), 12);
    }

    private static void needed() {
        promise = 25;
        SoldMatches x = withMatches(2);
        for (int what = 0; what < 3; what++) {
            due("without acts", x.needed(0, what), 0);
        }
        x.act(0, 6);
        due("the least as bits", x.needed(0, 0), 2);
        x.debts(2, 1);
        due("the cheapest", x.needed(0, 0), 4);
        due("its price", x.needed(0, 1), 999);
        due("nobody must", x.needed(0, 2), 0);
        x.debts(5, 1000);
        x.debts(6, 1000);
        x.act(0, 32 | 2);
        due("fewest ahead of cheapest", x.needed(0, 0), 2);
        x.act(0, 64);
        due("one more", x.needed(0, 0), 66);
        due("1000 and 0", x.needed(0, 1), 1000);
        due("must", x.needed(0, 2), 64);
        due("the other match", x.needed(1, 0), 0);
        due("what", x.needed(0, 3), OUTSIDE);
        due("what", x.needed(0, -1), OUTSIDE);
        due("no match", x.needed(2, 3), UNKNOWN);
        SoldMatches y = withMatches(1);
        for (int i = 0; i < 10; i++) {
            y.act(0, 1 << i);
        }
        due("all", y.needed(0, 0), 1023);
        due("all must", y.needed(0, 2), 1023);
        due("prices of all", y.needed(0, 1), 10000);
    }

    private static void joined() {
        promise = 26;
        SoldMatches x = withMatches(7);
        due("one referee", x.joined(0, 6), 1);
        due("another one", x.joined(0, 1), 0);
        due("itself", x.joined(3, 3), 1);
        x.stake(5, 0, 0, 0, 1);
        x.stake(5, 1, 2, 89, 9);
        due("one hand", x.joined(1, 0), 1);
        x.stake(6, 2, 0, 0, 1);
        due("hands that are not one", x.joined(0, 2), 0);
        x.set(3, 1);
        x.stake(6, 3, 0, 0, 1);
        x.stake(5, 3, 0, 0, 1);
        due("hands that are one", x.joined(0, 2), 1);
        due("no match", x.joined(7, 0), UNKNOWN);
        due("no match", x.joined(0, -1), UNKNOWN);
        due("no match", x.joined(7, 7), UNKNOWN);
    }

    private static void ring() {
        promise = 27;
        SoldMatches x = withMatches(12);
        due("by referees", x.ring(0), 1 | 1 << 6);
        x.stake(0, 6, 0, 0, 1);
        x.stake(0, 7, 0, 0, 1);
        due("and so on", x.ring(0), 1 | 1 << 6 | 1 << 7 | 1 << 1);
        due("from the other end", x.ring(1), 1 | 1 << 6 | 1 << 7 | 1 << 1);
        due("another ring", x.ring(11), 1 << 11 | 1 << 5);
        due("alone", withMatches(6).ring(5), 1 << 5);
        due("no match", x.ring(12), UNKNOWN);
        due("no match", x.ring(-1), UNKNOWN);
    }

    private static void holds() {
        promise = 28;
        SoldMatches x = withMatches(8);
        due("two alone", x.holds(0, 6), 1);
        x.stake(0, 6, 0, 0, 1);
        x.stake(0, 7, 0, 0, 1);
        due("a bridge", x.holds(7, 6), 1);
        due("not joined", x.holds(0, 7), NO);
        x.stake(1, 0, 0, 0, 1);
        x.stake(1, 1, 0, 0, 1);
        due("another way round", x.holds(7, 6), 0);
        due("another way round", x.holds(0, 6), 0);
        due("itself", x.holds(2, 2), 0);
        due("no match", x.holds(8, 0), UNKNOWN);
        due("no match", x.holds(0, -1), UNKNOWN);
        due("a question changes nothing", x.ring(0), 1 | 1 << 1 | 1 << 6 | 1 << 7);
    }

    private static void story() {
        promise = 29;
        SoldMatches x = new SoldMatches();
        due("person", x.story(10, 10, 0, 0), UNKNOWN);
        due("person", x.story(-1, 0, 0, 0), UNKNOWN);
        due("place", x.story(0, 10, 0, 0), OUTSIDE);
        due("place", x.story(0, -1, 0, 0), OUTSIDE);
        due("from", x.story(0, 0, -1, 0), OUTSIDE);
        due("to", x.story(0, 0, 0, 1000), OUTSIDE);
        due("to ahead of from", x.story(0, 0, 1, 0), OUTSIDE);
        for (int i = 0; i < 10; i++) {
            due("number", x.story(9, 9, 0, 999), i);
        }
        due("full", x.story(0, 0, 0, 0), FULL);
        due("outside ahead of full", x.story(0, 0, 1, 0), OUTSIDE);
        due("ten", x.told(4), 10);
    }

    private static void untrue() {
        promise = 30;
        SoldMatches x = new SoldMatches();
        x.story(0, 0, 10, 20);
        x.story(1, 1, 10, 20);
        x.story(0, 0, 15, 30);
        x.story(0, 1, 31, 40);
        due("another person, one place, no hour in common", x.untrue(0), 0);
        x.story(0, 2, 20, 31);
        due("one against three", x.untrue(0), 1 << 4);
        due("how many", x.untrue(1), 1);
        due("sure", x.untrue(2), 1 << 4);
        x.story(1, 2, 20, 20);
        due("one of two: the least as bits", x.untrue(0), 1 << 4 | 1 << 1);
        due("how many", x.untrue(1), 2);
        due("sure", x.untrue(2), 1 << 4);
        due("what", x.untrue(3), OUTSIDE);
        due("what", x.untrue(-1), OUTSIDE);
        SoldMatches y = new SoldMatches();
        for (int i = 0; i < 10; i++) {
            y.story(3, i, 5, 5);
        }
        due("all but one", y.untrue(0), 511);
        due("how many", y.untrue(1), 9);
        due("none is sure", y.untrue(2), 0);
    }

    private static void take() {
        promise = 31;
        SoldMatches x = new SoldMatches();
        due("first", x.take(7, 99), 0);
        due("again", x.take(7, 0), 99);
        due("too many", x.take(7, 100), OUTSIDE);
        due("too few", x.take(7, -1), OUTSIDE);
        due("a side without a match", x.take(6, 5), 0);
        due("side", x.take(8, 100), UNKNOWN);
        due("side", x.take(-1, 0), UNKNOWN);
        due("kept", x.take(7, 1), 0);
    }

    private static void table() {
        promise = 32;
        SoldMatches x = new SoldMatches();
        x.match(5, 2, 0);
        x.match(7, 1, 0);
        due("how many", x.table(-1), 4);
        int[] numbers = {1, 2, 5, 7};
        for (int i = 0; i < 4; i++) {
            due("by numbers " + i, x.table(i), numbers[i]);
        }
        x.goal(0, 0, 1);
        x.goal(1, 0, 1);
        x.goal(1, 1, 1);
        int[] goals = {7, 5, 2, 1};
        for (int i = 0; i < 4; i++) {
            due("by goals " + i, x.table(i), goals[i]);
        }
        x.take(7, 99);
        due("points less taken", x.table(3), 7);
        due("behind the last", x.table(4), NONE);
        due("ahead of the first", x.table(-2), NONE);
        due("far off", x.table(MAX), NONE);
        due("far off", x.table(MIN), NONE);
    }

    private static void ofSide() {
        promise = 33;
        SoldMatches x = new SoldMatches();
        x.match(0, 1, 0);
        x.match(2, 3, 0);
        x.match(0, 2, 0);
        x.goal(0, 0, 1);
        x.goal(2, 0, 1);
        x.goal(2, 1, 1);
        due("points", x.ofSide(0, 0), 6);
        due("points", x.ofSide(3, 0), 1);
        due("goals", x.ofSide(0, 1), 3);
        due("goals", x.ofSide(2, 1), -2);
        due("down", x.ofSide(1, 2), 1);
        due("down already", x.ofSide(1, 3), 0);
        due("not down", x.ofSide(3, 2), 0);
        due("down with goals: 2 has 1 and -2, 3 has 1 and 0", x.ofSide(2, 2), 1);
        due("3 goes down behind 2", x.ofSide(3, 3), 1);
        due("0 goes down behind 2: with 1 it stands ahead", x.ofSide(0, 3), 6);
        x.take(0, 5);
        due("less taken", x.ofSide(0, 0), 1);
        due("more than is", x.ofSide(0, 3), 1);
        x.take(1, 99);
        due("below 0", x.ofSide(1, 0), -99);
        x.set(4, 1);
        due("behind 99 below", x.ofSide(0, 3), 101);
        x.set(4, 4);
        due("all are down", x.ofSide(0, 2), 1);
        due("what", x.ofSide(0, 4), REFUSED);
        due("what", x.ofSide(0, -1), REFUSED);
        due("no match", x.ofSide(4, 0), REFUSED);
        due("side", x.ofSide(8, 0), REFUSED);
        x.match(7, 0, 0);
        due("the last side", x.ofSide(7, 0), 1);
        due("side", x.ofSide(-1, 0), REFUSED);
    }

    private static void say() {
        promise = 34;
        SoldMatches x = new SoldMatches();
        due("sign", x.say(32), OUTSIDE);
        due("sign", x.say(127), OUTSIDE);
        due("sign", x.say(MIN), OUTSIDE);
        for (int i = 1; i <= 40; i++) {
            due("how many", x.say(i % 2 == 0 ? 33 : 126), i);
        }
        due("full", x.say(33), FULL);
        due("outside ahead of full", x.say(32), OUTSIDE);
        due("forty", x.told(5), 40);
    }

    private static void wipe() {
        promise = 35;
        SoldMatches x = withMatches(1);
        sayAll(x, "r>0");
        x.rule();
        due("none left", x.wipe(), 0);
        sayAll(x, "abc");
        due("three", x.wipe(), 3);
        due("none", x.told(5), 0);
        due("proof is kept", x.proof(0, 0), 1);
        due("from the first on", x.say('g'), 1);
    }

    private static void fault() {
        promise = 36;
        String[] texts = {"", "g", "g<", "g<1", "g<12", "g<123", "g<1234", "G<1", "g=1", "g<g", "g<1&", "g<1|", "g<1&&",
            "g<1|h>2&x<3|r>4&n>999", "<1", "1", "g<1g", "g<-1", "gg", "|g<1", "g<1|g<1|g<1|g<1|g<1|g<1|g<1|g<1|g<1|g<1",
            "g<1|g<1|g<1|g<1|g<1|g<1|g<1|g<1|g<1|g<1|", "g<1~", "(g<1)"};
        int[] faults = {0, 1, 2, NONE, NONE, NONE, 5, 0, 1, 2, 4, 4, 4, NONE, 0, 0, 3, 2, 1, 0, NONE, 40, 3, 0};
        for (int i = 0; i < texts.length; i++) {
            SoldMatches x = new SoldMatches();
            sayAll(x, texts[i]);
            due(texts[i], x.fault(), faults[i]);
            due(texts[i] + ", again", x.fault(), faults[i]);
        }
    }

    private static void rule() {
        promise = 37;
        SoldMatches x = withMatches(1);
        due("no text", x.rule(), NO);
        sayAll(x, "r>");
        due("a fault", x.rule(), NO);
        due("the signs stay", x.told(5), 2);
        due("nothing is proof", x.proof(0, 0), 0);
        x.say('0');
        due("a text", x.rule(), 1);
        due("the signs are empty", x.told(5), 0);
        due("proof", x.proof(0, 0), 1);
        sayAll(x, "r>1|");
        due("a fault", x.rule(), NO);
        due("the old one is kept", x.proof(0, 0), 1);
        x.wipe();
        sayAll(x, "r>1");
        due("a text", x.rule(), 1);
        due("the new one", x.proof(0, 0), 0);
        due("forty signs", sayAll(x, "g>1|g>1|g>1|g>1|g>1|g>1|g>1|g>1|g>1|r>00"), 40);
        due("a text of forty", x.rule(), 1);
        due("its last test", x.proof(0, 0), 1);
    }

    private static int ruled(SoldMatches x, String text, int match) {
        x.wipe();
        sayAll(x, text);
        x.rule();
        return x.proof(match, 0);
    }

    private static void proof() {
        promise = 38;
        SoldMatches x = withMatches(7);
        due("none at first", x.proof(0, 0), 0);
        x.price(0, 5, 0, 300);
        x.set(3, 1);
        x.stake(0, 0, 0, 10, 5);
        x.stake(1, 0, 0, 10, 5);
        x.stake(1, 1, 0, 10, 5);
        x.stake(2, 0, 1, 10, 5);
        x.news(2, 0);
        x.act(0, 1);
        x.act(0, 2);
        int[] ofFirst = {133, 2, 1, 3, 2};
        int[] ofSecond = {0, 1, 0, 3, 0};
        for (int what = 1; what <= 5; what++) {
            due("fact " + what, x.proof(0, what), ofFirst[what - 1]);
            due("fact " + what, x.proof(1, what), ofSecond[what - 1]);
        }
        due("more than itself", ruled(x, "g>133", 0), 0);
        due("more", ruled(x, "g>132", 0), 1);
        due("less than itself", ruled(x, "g<133", 0), 0);
        due("less", ruled(x, "g<134", 0), 1);
        due("both", ruled(x, "h>1&x>0", 0), 1);
        due("both, the last fails", ruled(x, "h>1&x>1", 0), 0);
        due("both, the first fails", ruled(x, "h>2&x>0", 0), 0);
        due("one of two", ruled(x, "h>2&x>0|r>2&n>1", 0), 1);
        due("one of two, the first", ruled(x, "r>2&n>1|h>2&x>0", 0), 1);
        due("none of two", ruled(x, "h>2&x>0|r>2&n>2", 0), 0);
        due("of the other match", ruled(x, "n<001", 1), 1);
        x.price(2, 0, 0, 10000);
        for (int i = 1; i < 18; i++) {
            x.price(2, i / 3, i % 3, 10000);
        }
        due("below 0", ruled(x, "g<0", 2), 1);
        due("what", x.proof(0, 6), REFUSED);
        due("what", x.proof(0, -1), REFUSED);
        due("no match", x.proof(7, 0), REFUSED);
        due("no match", x.proof(-1, 1), REFUSED);
    }

    private static void cost() {
        promise = 39;
        SoldMatches x = withMatches(1);
        due("first", x.cost(0, 100), 10);
        due("again", x.cost(0, 0), 100);
        due("too much", x.cost(0, 101), OUTSIDE);
        due("too little", x.cost(0, -1), OUTSIDE);
        due("no match", x.cost(1, 101), UNKNOWN);
        due("no match", x.cost(-1, 0), UNKNOWN);
        due("kept", x.ofMatch(0, 7), 0);
    }

    private static void looks() {
        promise = 40;
        SoldMatches x = withMatches(4);
        // leans of 133, 133, 266, and one below 0
        x.price(0, 5, 0, 300);
        x.price(1, 5, 0, 300);
        x.price(2, 4, 0, 183);
        for (int i = 0; i < 18; i++) {
            x.price(3, i / 3, i % 3, 10000);
        }
        due("lean of 2: 546 less 280", x.greatest(2, 0), 266);
        due("no purse", x.looks(0, 0), 0);
        due("no purse", x.looks(9, 1), 0);
        due("one of three", x.looks(10, 0), 4);
        x.cost(2, 20);
        due("the least as bits of two alike", x.looks(10, 0), 1);
        due("its lean", x.looks(10, 1), 133);
        due("0 and 1, or 2, at one cost: the least as bits", x.looks(20, 0), 3);
        x.cost(2, 19);
        due("the cheapest", x.looks(20, 0), 4);
        due("266", x.looks(20, 1), 266);
        due("just enough", x.looks(39, 0), 7);
        due("one less", x.looks(38, 0), 5);
        x.cost(3, 0);
        due("a lean below 0 is never looked at", x.looks(1000, 0), 7);
        due("the sum", x.looks(1000, 1), 532);
        due("purse", x.looks(1001, 0), OUTSIDE);
        due("purse", x.looks(-1, 0), OUTSIDE);
        due("what", x.looks(0, 2), OUTSIDE);
        due("what", x.looks(0, -1), OUTSIDE);
        SoldMatches z = withMatches(2);
        z.price(1, 5, 0, 497);
        due("201 less 200", z.looks(10, 1), 1);
        due("a lean of 1 is looked at, one of 0 is not", z.looks(1000, 0), 2);
        SoldMatches y = withMatches(12);
        for (int i = 0; i < 12; i++) {
            y.price(i, 5, 1, 100);
            y.cost(i, 100);
        }
        due("ten of twelve", y.looks(1000, 0), 1023);
        due("their sum", y.looks(1000, 1), 4000);
    }

    private static void told() {
        promise = 41;
        SoldMatches x = withMatches(6);
        for (int i = 0; i < 5; i++) {
            x.stake(0, 0, 0, 0, 1);
        }
        for (int i = 0; i < 4; i++) {
            x.meet(0, 1, 0);
        }
        for (int i = 0; i < 3; i++) {
            x.act(0, 1);
        }
        x.story(0, 0, 0, 0);
        x.story(0, 0, 0, 0);
        x.say('!');
        for (int what = 0; what <= 5; what++) {
            due("what " + what, x.told(what), 6 - what);
        }
        due("what", x.told(6), OUTSIDE);
        due("what", x.told(-1), OUTSIDE);
    }

    public static void main(String[] args) {
        newObject();
        skill();
        match();
        goal();
        ofMatch();
        likely();
        set();
        price();
        lean();
        greatest();
        stake();
        gain();
        answer();
        one();
        meet();
        knew();
        own();
        begin();
        news();
        explained();
        moves();
        late();
        debts();
        act();
        needed();
        joined();
        ring();
        holds();
        story();
        untrue();
        take();
        table();
        ofSide();
        say();
        wipe();
        fault();
        rule();
        proof();
        cost();
        looks();
        told();
        System.out.println(wrong == 0 ? "all promises hold" : wrong + " answers are not as due");
        if (wrong != 0) {
            System.exit(1);
        }
    }
}
