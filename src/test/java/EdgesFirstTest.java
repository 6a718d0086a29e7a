/**
 * The sentences of the document's parts 1 to 4 that name a boundary, each on both sides of it. A label begins with the
 * document's words; the answers were worked out by hand.
 */
public final class EdgesFirstTest {
    private static final int NONE = -6, UNKNOWN = -1, OUTSIDE = -2, FULL = -4;
    private static final int EVERY_HAND = 1023;

    private static int wrong = 0;
    private static int checked = 0;

    private static void due(String sentence, long got, long want) {
        checked++;
        if (got != want) {
            wrong++;
            System.out.println(sentence + " answered " + got + ", due is " + want);
        }
    }

    private static SoldMatches withMatches(int n) {
        SoldMatches x = new SoldMatches();
        for (int i = 0; i < n; i++) {
            x.match(i % 8, (i + 1) % 8, i % 6);
        }
        return x;
    }

    /** Hundredths of an end with one quarter left at an even score: the chance of a side, or of nobody. */
    private static long hundredths(SoldMatches x, int end) {
        return 100 * x.likely(0, 5, 0, 0, end, 0) / x.likely(0, 5, 0, 0, end, 1);
    }

    // ---- 1 matches

    private static void sides() {
        SoldMatches x = new SoldMatches();
        for (int side = 0; side < 8; side++) {
            due("SIDES 0 to 7 have a SKILL (50 at first), " + side, x.skill(side, 0), 50);
            due("SKILL 0, " + side, x.skill(side, 99), 0);
            due("SKILL 99, " + side, x.skill(side, 100), OUTSIDE);
            due("SKILL 100 is not put, " + side, x.skill(side, -1), OUTSIDE);
            due("SKILL -1 is not put, " + side, x.skill(side, side), 99);
        }
        due("SIDES 0 to 7, -1", x.skill(-1, 0), UNKNOWN);
        due("SIDES 0 to 7, 8", x.skill(8, 0), UNKNOWN);
    }

    private static void matches() {
        SoldMatches x = new SoldMatches();
        due("a new object has no MATCHES", x.ofMatch(0, 0), UNKNOWN);
        for (int i = 0; i < 12; i++) {
            due("MATCHES are numbered from 0 on", x.match(i % 8, (i + 3) % 8, i % 6), i);
            due("the last MATCH is known", x.ofMatch(i, 2), i % 6);
            due("the next one is not", x.ofMatch(i + 1, 2), UNKNOWN);
            due("how many MATCHES", x.told(0), i + 1);
        }
        due("MATCHES, 12 at most", x.match(0, 1, 0), FULL);
        due("still 12", x.told(0), 12);
        for (int i = 0; i < 12; i++) {
            due("home of MATCH " + i, x.ofMatch(i, 0), i % 8);
            due("guest of MATCH " + i, x.ofMatch(i, 1), (i + 3) % 8);
        }
        SoldMatches y = new SoldMatches();
        due("another one as guest: not the same", y.match(0, 0, 0), UNKNOWN);
        due("another one as guest: the next", y.match(0, 1, 0), 0);
        due("another one as guest: the last", y.match(7, 6, 5), 1);
        due("a REFEREE (0 to 5): 6", y.match(0, 1, 6), OUTSIDE);
        due("a REFEREE (0 to 5): -1", y.match(0, 1, -1), OUTSIDE);
        due("two of one kind are two MATCHES", y.match(0, 1, 0), 2);
    }

    private static void goals() {
        SoldMatches x = withMatches(1);
        due("END without goals", x.ofMatch(0, 5), 1);
        for (int q = 0; q < 6; q++) {
            due("GOALS (0 at first), " + q, x.goal(0, q, 1), 0);
            due("6 QUARTERS, each is counted", x.ofMatch(0, 3), q + 1);
            due("the guest has none", x.ofMatch(0, 4), 0);
        }
        due("home wins by 6", x.ofMatch(0, 5), 0);
        int[] ends = {0, 0, 1, 2, 2, 2};
        for (int q = 0; q < 6; q++) {
            due("GOALS 1 home, " + q, x.goal(0, q, 2), 1);
            due("home has one less", x.ofMatch(0, 3), 5 - q);
            due("the guest has one more", x.ofMatch(0, 4), q + 1);
            due("its END by them: " + (q + 1) + " of the guest", x.ofMatch(0, 5), ends[q]);
        }
        due("GOALS 2 guest", x.goal(0, 0, 0), 2);
        due("GOALS 0 none", x.ofMatch(0, 4), 5);
        due("QUARTER 6", x.goal(0, 6, 1), OUTSIDE);
        due("QUARTER -1", x.goal(0, -1, 1), OUTSIDE);
        due("GOALS 3", x.goal(0, 5, 3), OUTSIDE);
        due("GOALS -1", x.goal(0, 5, -1), OUTSIDE);
        due("refused ones change nothing", x.ofMatch(0, 4), 5);
    }

    private static void chances() {
        SoldMatches x = withMatches(1);
        due("BASE 20 at first, home", hundredths(x, 0), 20);
        due("BASE 20 at first, guest", hundredths(x, 2), 20);
        due("nobody else with the rest", hundredths(x, 1), 60);
        int[] bases = {3, 2, 1, 0, 40, 39};
        int[] shown = {3, 2, 1, 1, 40, 39};
        for (int i = 0; i < bases.length; i++) {
            x.set(0, bases[i]);
            due("1 at least: home by BASE " + bases[i], hundredths(x, 0), shown[i]);
            due("1 at least: guest by BASE " + bases[i], hundredths(x, 2), shown[i]);
        }
        x.set(0, 20);
        int[] more = {1, 3, 4, 7, 8, 49};
        int[] quarters = {0, 0, 1, 1, 2, 12};
        for (int i = 0; i < more.length; i++) {
            x.skill(0, 50 + more[i]);
            due("a quarter of SKILLS, cut: home " + more[i] + " more", hundredths(x, 0), 20 + quarters[i]);
            due("a quarter of SKILLS, cut: guest " + more[i] + " less", hundredths(x, 2), 20 - quarters[i]);
            x.skill(0, 50 - more[i]);
            due("a quarter of SKILLS, cut: home " + more[i] + " less", hundredths(x, 0), 20 - quarters[i]);
            due("a quarter of SKILLS, cut: guest " + more[i] + " more", hundredths(x, 2), 20 + quarters[i]);
        }
        x.set(0, 40);
        x.skill(1, 0);
        int[] leads = {16, 19, 20, 23, 24, 99};
        int[] most = {44, 44, 45, 45, 45, 45};
        int[] least = {36, 36, 35, 35, 34, 16};
        for (int i = 0; i < leads.length; i++) {
            x.skill(0, leads[i]);
            due("45 at most: home by " + leads[i], hundredths(x, 0), most[i]);
            due("the guest by less " + leads[i], hundredths(x, 2), least[i]);
            due("nobody else with the rest", hundredths(x, 1), 100 - most[i] - least[i]);
        }
        x.skill(0, 0);
        x.skill(1, 20);
        due("45 at most: guest", hundredths(x, 2), 45);
        x.skill(1, 24);
        due("45 at most: guest, 46", hundredths(x, 2), 45);
        x.set(0, 6);
        x.skill(1, 16);
        due("1 at least: 6 less 4", hundredths(x, 0), 2);
        x.skill(1, 20);
        due("1 at least: 6 less 5", hundredths(x, 0), 1);
        x.skill(1, 24);
        due("1 at least: 6 less 6", hundredths(x, 0), 1);
        x.skill(1, 99);
        due("1 at least: 6 less 24", hundredths(x, 0), 1);
    }

    private static void fraction(String sentence, SoldMatches x, int[] at, long upper, long lower) {
        due(sentence + ", upper", x.likely(0, at[0], at[1], at[2], at[3], 0), upper);
        due(sentence + ", lower", x.likely(0, at[0], at[1], at[2], at[3], 1), lower);
    }

    private static void likely() {
        SoldMatches x = withMatches(1);
        for (int home = 0; home <= 6; home++) {
            for (int guest = 0; guest <= 6; guest++) {
                for (int end = 0; end <= 2; end++) {
                    int so = (home > guest ? 0 : home == guest ? 1 : 2) == end ? 1 : 0;
                    fraction("all QUARTERS done: 1 by 1, or 0 by 1 for none, " + home + ":" + guest + ", " + end, x,
                        new int[] {6, home, guest, end}, so, 1);
                }
            }
        }
        for (int done = 0; done <= 5; done++) {
            int left = 6 - done;
            long fifths = Math.round(Math.pow(5, left));
            fraction("behind by all that is left: none wins in 1 of 5 each", x, new int[] {done, 0, left, 1}, 1, fifths);
            fraction("ahead by all that is left: guest in 1 of 5 each", x, new int[] {done, left, 0, 1}, 1, fifths);
            fraction("behind by all that is left: home can not win", x, new int[] {done, 0, left, 0}, 0, 1);
            fraction("behind by one less: home can win", x, new int[] {done, 0, left - 1, 0}, 1, fifths);
            fraction("ahead by all that is left: the rest", x, new int[] {done, left, 0, 0}, fifths - 1, fifths);
            if (left < 6) {
                fraction("behind by one more: no other END", x, new int[] {done, 0, left + 1, 1}, 0, 1);
                fraction("behind by one more: certain", x, new int[] {done, 0, left + 1, 2}, 1, 1);
            }
        }
        fraction("in lowest terms: 20 by 100", x, new int[] {5, 0, 0, 0}, 1, 5);
        fraction("in lowest terms: 60 by 100", x, new int[] {5, 6, 6, 1}, 3, 5);
        x.set(0, 7);
        fraction("in lowest terms: 7 by 100 is so", x, new int[] {5, 0, 0, 0}, 7, 100);
        fraction("in lowest terms: 86 by 100", x, new int[] {5, 0, 0, 1}, 43, 50);
    }

    private static void numbers() {
        int[] least = {0, 0, 1, 1, 1};
        int[] most = {40, 89, 10, 20, 4};
        int[] first = {20, 3, 2, 2, 2};
        String[] names = {"BASE", "NEAR", "TIMES", "TIES", "DOWN"};
        for (int which = 0; which < 5; which++) {
            SoldMatches x = new SoldMatches();
            due(names[which] + ", one too small", x.set(which, least[which] - 1), OUTSIDE);
            due(names[which] + ", one too great", x.set(which, most[which] + 1), OUTSIDE);
            due(names[which] + " at first, and the least", x.set(which, least[which]), first[which]);
            due(names[which] + ", the greatest", x.set(which, most[which]), least[which]);
            due(names[which] + ", which it was", x.set(which, first[which]), most[which]);
            for (int other = 0; other < 5; other++) {
                due(names[other] + " is as at first", x.set(other, first[other]), first[other]);
            }
        }
    }

    // ---- 2 prices, stakes

    private static void prices() {
        SoldMatches x = withMatches(12);
        for (int i = 0; i < 36; i++) {
            int m = i / 18 * 11;
            due("PRICES shut at first", x.price(m, i % 18 / 3, i % 3, 100 + i), 0);
        }
        for (int i = 0; i < 36; i++) {
            int m = i / 18 * 11;
            due("PRICES ahead of each QUARTER for each END", x.price(m, i % 18 / 3, i % 3, 0), 100 + i);
        }
        due("PRICES of another MATCH", x.price(1, 0, 0, 0), 0);
        due("PRICE 100", x.price(0, 0, 0, 100), 0);
        due("PRICE 99", x.price(0, 0, 0, 99), OUTSIDE);
        due("PRICE 10000", x.price(0, 0, 0, 10000), 100);
        due("PRICE 10001", x.price(0, 0, 0, 10001), OUTSIDE);
        due("PRICE 1, next to shut", x.price(0, 0, 0, 1), OUTSIDE);
        due("PRICE -1, next to shut", x.price(0, 0, 0, -1), OUTSIDE);
        due("shut (0)", x.price(0, 0, 0, 0), 10000);
        due("shut again", x.price(0, 0, 0, 0), 0);
    }

    private static void leans() {
        SoldMatches x = withMatches(1);
        due("LEAN of shut ones 0", x.lean(0, 0, 0), 0);
        x.price(0, 0, 0, 10000);
        due("LEAN: the greatest PRICE, 10 less 372 (.372352)", x.lean(0, 0, 0), -362);
        x.price(0, 0, 0, 100);
        due("LEAN: the least PRICE, 1000 less 372", x.lean(0, 0, 0), 628);
        x.price(0, 0, 0, 0);
        due("LEAN: shut again", x.lean(0, 0, 0), 0);
        x.price(0, 1, 0, 277);
        due("1000 times LIKELY (cut): .36032, 361 by the PRICE", x.lean(0, 1, 0), 1);
        x.price(0, 1, 0, 278);
        due("100000 by the PRICE, cut: 359.7", x.lean(0, 1, 0), -1);
        x.goal(0, 0, 2);
        x.price(0, 1, 2, 100);
        due("cut, not to the nearest: 1000 less 639 (.63968)", x.lean(0, 1, 2), 361);
        SoldMatches y = withMatches(1);
        for (int q = 0; q < 6; q++) {
            y.price(0, q, 1, 100);
        }
        y.goal(0, 2, 1);
        int[] none = {745, 721, 688, 760, 760, 800};
        for (int q = 0; q < 6; q++) {
            due("as the SCORE is then by GOALS, made in QUARTER 2: ahead of " + q, y.lean(0, q, 1), none[q]);
        }
        y.goal(0, 5, 1);
        due("a goal of the last QUARTER is behind every PRICE", y.lean(0, 5, 1), 800);
    }

    private static void greatest() {
        for (int i = 0; i < 18; i++) {
            SoldMatches x = withMatches(1);
            x.price(0, i / 3, i % 3, 100);
            due("GREATEST of QUARTERS 0 to 5, ENDS 0 to 2: place", x.greatest(0, 1), i / 3 * 10 + i % 3);
            due("GREATEST: its LEAN", x.greatest(0, 0), x.lean(0, i / 3, i % 3));
            due("GREATEST: more than 0", x.greatest(0, 0) > 0 ? 1 : 0, 1);
            x.price(0, i / 3, i % 3, 10000);
            due("GREATEST: shut ones are 0, more than below 0", x.greatest(0, 0), 0);
            due("GREATEST, the first such", x.greatest(0, 1), i == 0 ? 1 : 0);
        }
        SoldMatches x = withMatches(1);
        for (int i = 0; i < 18; i++) {
            x.price(0, i / 3, i % 3, 10000);
        }
        due("GREATEST, all below 0: 10 less 200", x.greatest(0, 0), -190);
        due("GREATEST, the first of two below 0", x.greatest(0, 1), 50);
        x.price(0, 5, 0, 9090);
        x.price(0, 5, 2, 9090);
        due("GREATEST, the first of two: 11 less 200", x.greatest(0, 1), 50);
        x.price(0, 5, 0, 9091);
        due("GREATEST, the last place", x.greatest(0, 1), 52);
        due("GREATEST, its LEAN", x.greatest(0, 0), -189);
    }

    private static void stakes() {
        SoldMatches x = withMatches(12);
        due("STAKES: minute 90", x.stake(0, 0, 0, 90, 1), OUTSIDE);
        due("STAKES: minute -1", x.stake(0, 0, 0, -1, 1), OUTSIDE);
        due("STAKES: sum 0", x.stake(0, 0, 0, 0, 0), OUTSIDE);
        due("STAKES: sum 10001", x.stake(0, 0, 0, 0, 10001), OUTSIDE);
        due("STAKES: END 3", x.stake(0, 0, 3, 0, 1), OUTSIDE);
        due("STAKES: HAND 10", x.stake(10, 0, 0, 0, 1), UNKNOWN);
        due("STAKES: MATCH 12", x.stake(0, 12, 0, 0, 1), UNKNOWN);
        due("none is told", x.told(1), 0);
        due("STAKES: the least of all", x.stake(0, 0, 0, 0, 1), 0);
        due("STAKES: the greatest of all", x.stake(9, 11, 2, 89, 10000), 1);
        for (int i = 2; i < 40; i++) {
            due("STAKES are numbered from 0 on", x.stake(5, 5, 1, 30, 100), i);
        }
        due("STAKES, 40 at most", x.stake(5, 5, 1, 30, 100), FULL);
        due("STAKES, 40 at most, of another HAND", x.stake(0, 0, 0, 0, 1), FULL);
        due("still 40", x.told(1), 40);
        x.price(5, 2, 1, 200);
        due("38 of them gain", x.gain(5), 3800);
    }

    private static void gains() {
        int[] minutes = {0, 14, 15, 29, 30, 44, 45, 59, 60, 74, 75, 89};
        for (int i = 0; i < minutes.length; i++) {
            SoldMatches x = withMatches(1);
            x.stake(2, 0, 1, minutes[i], 100);
            for (int q = 0; q < 6; q++) {
                x.price(0, q, 1, 200 + q);
            }
            due("its QUARTER: by 15, minute " + minutes[i], x.gain(2), 100 + i / 2);
            x.price(0, i / 2, 1, 0);
            due("of shut ones nothing, minute " + minutes[i], x.gain(2), 0);
        }
        SoldMatches x = withMatches(1);
        x.stake(3, 0, 1, 0, 1);
        x.price(0, 0, 1, 199);
        due("PAID, cut: 1.99", x.gain(3), 0);
        x.price(0, 0, 1, 200);
        due("PAID: 2", x.gain(3), 1);
        x.price(0, 0, 1, 100);
        due("PAID: the least PRICE pays the sum", x.gain(3), 0);
        x.goal(0, 0, 1);
        due("PAID: 0, if the END is not so", x.gain(3), -1);
        x.goal(0, 1, 2);
        due("the END is so again", x.gain(3), 0);
        x.goal(0, 1, 0);
        x.price(0, 0, 1, 0);
        due("a shut one gives the sum back, also if the END is not so", x.gain(3), 0);
        SoldMatches y = withMatches(1);
        y.price(0, 5, 1, 10000);
        for (int i = 0; i < 40; i++) {
            y.stake(9, 0, 1, 89, 10000);
        }
        due("GAIN, the greatest: 40 times 990000", y.gain(9), 39600000);
        due("GAIN of a HAND without STAKES", y.gain(8), 0);
        y.goal(0, 0, 1);
        due("GAIN, the least: 40 times 10000", y.gain(9), -400000);
    }

    // ---- 3 hands

    private static int pairs(SoldMatches x, int minute, int sum, int otherMinute, int otherSum) {
        x.stake(8, 0, 2, minute, sum);
        x.stake(9, 0, 2, otherMinute, otherSum);
        int there = x.answer(8, 9, 0);
        due("the other way round", x.answer(9, 8, 0), there);
        return there;
    }

    private static SoldMatches withNumbers(int near, int times, int ties) {
        SoldMatches x = withMatches(1);
        x.set(1, near);
        x.set(2, times);
        x.set(3, ties);
        return x;
    }

    private static void answers() {
        int[] near = {0, 1, 3, 45, 88, 89};
        for (int n : near) {
            due("minutes that differ by NEAR " + n, pairs(withNumbers(n, 2, 2), 0, 5, n, 5), 1);
            due("by NEAR " + n + ", the later first", pairs(withNumbers(n, 2, 2), 89, 5, 89 - n, 5), 1);
            if (n < 89) {
                due("by one more than NEAR " + n, pairs(withNumbers(n, 2, 2), 0, 5, n + 1, 5), 0);
                due("by one more, the later first", pairs(withNumbers(n, 2, 2), 89, 5, 88 - n, 5), 0);
            }
        }
        due("NEAR 3 at first", pairs(withMatches(1), 10, 5, 13, 5), 1);
        due("NEAR 3 at first, 4", pairs(withMatches(1), 10, 5, 14, 5), 0);
        due("TIMES 2 at first", pairs(withMatches(1), 10, 5, 10, 10), 1);
        due("TIMES 2 at first, 11 of 5", pairs(withMatches(1), 10, 5, 10, 11), 0);
        for (int t = 1; t <= 10; t++) {
            due("the greater no more than TIMES " + t, pairs(withNumbers(3, t, 2), 0, 1000, 0, 1000 * t), 1);
            due("the lesser last, TIMES " + t, pairs(withNumbers(3, t, 2), 0, 7 * t, 0, 7), 1);
            due("one more than TIMES " + t, pairs(withNumbers(3, t, 2), 0, 999, 0, 999 * t + 1), 0);
            due("one more, the lesser last", pairs(withNumbers(3, t, 2), 0, 7 * t + 1, 0, 7), 0);
        }
        SoldMatches x = withMatches(2);
        x.stake(0, 0, 0, 0, 1);
        due("no STAKES of one", x.answer(0, 1, 0), 0);
        x.stake(1, 1, 0, 0, 1);
        due("of one MATCH: not of two", x.answer(0, 1, 0), 0);
        x.stake(1, 0, 1, 0, 1);
        due("of one END: not of two", x.answer(0, 1, 0), 0);
        x.stake(1, 0, 0, 0, 1);
        due("of one MATCH and END", x.answer(0, 1, 0), 1);
        x.stake(1, 0, 0, 0, 1);
        due("each STAKE in one at most", x.answer(0, 1, 0), 1);
        due("each STAKE in one at most, turned round", x.answer(1, 0, 0), 1);
        x.stake(0, 0, 0, 0, 1);
        due("two and two", x.answer(0, 1, 0), 2);
    }

    private static void mostPairs() {
        SoldMatches x = withNumbers(1, 2, 20);
        // a stake of hand 0 is near its own and the next one of hand 1: told in turn, all must move by one for the last
        for (int i = 0; i < 19; i++) {
            x.stake(0, 0, 0, 2 * i + 1, 10);
        }
        for (int i = 1; i <= 19; i++) {
            x.stake(1, 0, 0, 2 * i, 10);
        }
        due("the most pairs: 19", x.answer(0, 1, 0), 19);
        x.stake(1, 0, 0, 0, 10);
        x.stake(0, 0, 0, 39, 10);
        due("the most pairs: 20", x.answer(0, 1, 0), 20);
        due("the most pairs, turned round", x.answer(1, 0, 0), 20);
        due("LIKE with TIES 20", x.answer(0, 1, 1), 1);
        SoldMatches y = withNumbers(1, 2, 20);
        int[] ofOne = {1, 3, 5, 5};
        int[] ofOther = {2, 4, 0, 3};
        for (int i = 0; i < 4; i++) {
            y.stake(0, 0, 0, ofOne[i], 10);
            y.stake(1, 0, 0, ofOther[i], 10);
        }
        // both at 5 have none but the one at 4, though others are left when the second of them is looked at
        due("the most pairs, each STAKE in one at most: 3 of 4", y.answer(0, 1, 0), 3);
        due("the most pairs, each STAKE in one at most, turned round", y.answer(1, 0, 0), 3);
    }

    private static void like() {
        for (int ties = 1; ties <= 20; ties++) {
            SoldMatches x = withNumbers(3, 2, ties);
            for (int i = 1; i < ties; i++) {
                x.stake(0, 0, 0, 0, 1);
                x.stake(9, 0, 0, 0, 1);
            }
            due("LIKE: one pair too few for TIES " + ties, x.answer(9, 0, 1), 0);
            due("ONE: itself alone", x.one(9), 1 << 9);
            x.stake(0, 0, 0, 0, 1);
            due("LIKE: the last STAKE alone is no pair", x.answer(0, 9, 1), 0);
            x.stake(9, 0, 0, 0, 1);
            due("LIKE with so many pairs, TIES " + ties, x.answer(0, 9, 1), 1);
            due("ONE with it", x.one(9), 1 << 9 | 1);
            if (ties > 1) {
                x.set(3, ties - 1);
                due("LIKE with more pairs, TIES " + ties, x.answer(0, 9, 1), 1);
            }
        }
        SoldMatches y = withMatches(1);
        y.stake(0, 0, 0, 0, 1);
        y.stake(1, 0, 0, 0, 1);
        due("TIES 2 at first: one pair", y.answer(0, 1, 1), 0);
        y.stake(0, 0, 0, 0, 1);
        y.stake(1, 0, 0, 0, 1);
        due("TIES 2 at first: two pairs", y.answer(0, 1, 1), 1);
    }

    private static void ones() {
        SoldMatches x = withNumbers(3, 2, 1);
        for (int hand = 0; hand < 10; hand++) {
            due("ONE without STAKES: itself", x.one(hand), 1 << hand);
        }
        for (int hand = 9; hand >= 0; hand--) {
            x.stake(hand, 0, 0, 3 * (hand * 7 % 10), 1);
        }
        for (int hand = 0; hand < 10; hand++) {
            due("ONE, and LIKE those, and so on: all ten in a chain", x.one(hand), EVERY_HAND);
        }
        x.set(1, 2);
        for (int hand = 0; hand < 10; hand++) {
            due("ONE: a chain of links too long", x.one(hand), 1 << hand);
        }
        due("ONE: HAND 10", x.one(10), UNKNOWN);
        due("ONE: HAND -1", x.one(-1), UNKNOWN);
    }

    // ---- 4 news

    private static void meetings() {
        SoldMatches x = new SoldMatches();
        due("MEETINGS: hour -1", x.meet(0, 1, -1), OUTSIDE);
        due("MEETINGS: hour 1000", x.meet(0, 1, 1000), OUTSIDE);
        due("MEETINGS: both are one", x.meet(1, 1, 0), UNKNOWN);
        due("MEETINGS: PERSON 10", x.meet(0, 10, 0), UNKNOWN);
        due("none is told", x.told(2), 0);
        due("MEETINGS: hour 0", x.meet(0, 9, 0), 1);
        due("MEETINGS: hour 999", x.meet(9, 0, 999), 2);
        for (int i = 3; i <= 29; i++) {
            due("MEETINGS: how many", x.meet(0, 1, 5), i);
        }
        due("the 30th, ahead of all of its hour but the first", x.meet(1, 8, 1), 30);
        due("MEETINGS, 30 at most", x.meet(1, 7, 999), FULL);
        due("still 30", x.told(2), 30);
        due("the 30th is gone through", x.knew(1, 0, 8), 1);
        due("the 31st is not", x.knew(1, 0, 7), NONE);
        due("the last one is not pushed out", x.knew(9, 1, 0), 999);
    }

    private static void knew() {
        SoldMatches x = new SoldMatches();
        due("KNEW without MEETINGS: first to one PERSON", x.knew(9, 0, 9), 0);
        due("KNEW without MEETINGS: NONE", x.knew(9, 0, 8), NONE);
        x.meet(0, 1, 500);
        due("MEETINGS from that hour on: an hour ahead", x.knew(0, 499, 1), 500);
        due("MEETINGS from that hour on: the hour itself", x.knew(0, 500, 1), 500);
        due("MEETINGS from that hour on: an hour late", x.knew(0, 501, 1), NONE);
        due("who knows it tells it, the other way", x.knew(1, 500, 0), 500);
        due("hour 999", x.knew(0, 999, 0), 999);
        due("hour 1000", x.knew(0, 1000, 0), OUTSIDE);
        due("hour 0", x.knew(0, 0, 0), 0);
        due("hour -1", x.knew(0, -1, 0), OUTSIDE);
        SoldMatches y = new SoldMatches();
        y.meet(2, 3, 10);
        y.meet(1, 2, 10);
        y.meet(0, 1, 10);
        due("of like hours as they were told, once: the first", y.knew(0, 0, 1), 10);
        due("of like hours as they were told, once: no further", y.knew(0, 0, 2), NONE);
        due("from the other end all hear it", y.knew(3, 0, 0), 10);
        y.meet(1, 2, 11);
        due("an hour later", y.knew(0, 0, 2), 11);
        due("not from an hour ahead", y.knew(0, 0, 3), NONE);
        y.meet(2, 3, 9);
        due("by hours, not as they were told", y.knew(0, 0, 3), NONE);
        y.meet(2, 3, 12);
        due("by hours", y.knew(0, 0, 3), 12);
        y.meet(0, 3, 20);
        due("the hour by which it is known stays the first", y.knew(0, 0, 3), 12);
        SoldMatches z = new SoldMatches();
        z.meet(8, 7, 10);
        z.meet(9, 8, 9);
        due("by hours: the last one told is the first", z.knew(9, 0, 8), 9);
        due("by hours: the first one told is the last", z.knew(9, 0, 7), 10);
        due("by hours: not from the other end", z.knew(7, 0, 9), NONE);
    }

    private static void owners() {
        SoldMatches x = new SoldMatches();
        for (int hand = 0; hand < 10; hand++) {
            due("A HAND is a PERSON's (at first its own number)", x.own(hand, 9 - hand), hand);
            due("which it was", x.own(hand, hand), 9 - hand);
        }
        due("HAND 10", x.own(10, 0), UNKNOWN);
        due("HAND -1", x.own(-1, 0), UNKNOWN);
        due("PERSON 10", x.own(0, 10), UNKNOWN);
        due("PERSON -1", x.own(0, -1), UNKNOWN);
    }

    private static void explained() {
        int[] minutes = {0, 59, 60, 89};
        for (int minute : minutes) {
            int next = minute >= 60 ? 1 : 0;
            SoldMatches x = withMatches(2);
            due("without STAKES none is EXPLAINED", x.explained(0, 0), 0);
            due("without STAKES none is not", x.explained(0, 1), 0);
            x.stake(4, 0, 0, minute, 1);
            due("NEWS: at first there is none", x.explained(0, 0), 0);
            due("NEWS: at first there is none, not EXPLAINED", x.explained(0, 1), 1);
            due("a MATCH begins at 0 at first", x.begin(0, 499), 0);
            due("NEWS is what is asked for from now on: 1", x.news(4, 499 + next), 1);
            due("KNEW by that hour, minute " + minute, x.explained(0, 0), 1);
            due("none that is not, minute " + minute, x.explained(0, 1), 0);
            x.news(4, 500 + next);
            due("KNEW an hour late, minute " + minute, x.explained(0, 0), 0);
            due("not EXPLAINED, minute " + minute, x.explained(0, 1), 1);
            x.begin(0, 500);
            due("an hour later, minute " + minute, x.explained(0, 0), 1);
            x.own(4, 5);
            due("the PERSON of its HAND, minute " + minute, x.explained(0, 0), 0);
            x.meet(4, 5, 500 + next);
            due("told by that hour, minute " + minute, x.explained(0, 0), 1);
            due("of another MATCH none", x.explained(1, 0) + x.explained(1, 1), 0);
        }
        SoldMatches x = withMatches(1);
        x.stake(0, 0, 0, 89, 1);
        x.begin(0, 999);
        x.news(0, 999);
        due("the last hour, and the next one", x.explained(0, 0), 1);
        x.begin(0, 0);
        x.news(0, 1);
        due("the first hour, and the next one", x.explained(0, 0), 1);
        x.news(0, 2);
        due("two hours on", x.explained(0, 0), 0);
    }

    public static void main(String[] args) {
        sides();
        matches();
        goals();
        chances();
        likely();
        numbers();
        prices();
        leans();
        greatest();
        stakes();
        gains();
        answers();
        mostPairs();
        like();
        ones();
        meetings();
        knew();
        owners();
        explained();
        System.out.println(checked + " answers, " + wrong + " are not as due");
        if (wrong != 0) {
            System.exit(1);
        }
    }
}
