import java.math.BigInteger;
import java.util.ArrayList;
import java.util.Arrays;
import java.util.Comparator;
import java.util.List;
import java.util.Random;
import java.util.regex.Pattern;

/**
 * Long runs of calls, by fixed seeds, on the program and on a plain model of the document that tries all cases
 * wherever the program reckons. The model shares no code with the program.
 */
public final class ModelTest {
    private static final int REFUSED = -2000000000;
    private static final long LOST = -1000000000000000000L;
    private static final int NONE = -6, UNKNOWN = -1, OUTSIDE = -2, STATE = -3, FULL = -4, NO = -5;

    private record Match(int home, int guest, int referee, int[] goals, int[][] prices, int[] more) {
        int made(int who, int quarters) {
            int n = 0;
            for (int q = 0; q < quarters; q++) {
                n += goals[q] == who ? 1 : 0;
            }
            return n;
        }

        int end() {
            return 1 - Integer.signum(made(1, 6) - made(2, 6));
        }
    }

    private record Stake(int hand, int match, int end, int minute, int sum) { }

    private record Meeting(int a, int b, int hour) { }

    private record Act(int match, int players) { }

    private record Story(int person, int place, int from, int to) { }

    private record Fraction(BigInteger upper, BigInteger lower) {
        long part(int part) {
            BigInteger common = upper.gcd(lower);
            return (part == 0 ? upper : lower).divide(common).longValueExact();
        }
    }

    /** The document, done the slow way. */
    private static final class Model {
        final int[] skills = new int[8];
        final int[] taken = new int[8];
        final int[] numbers = {20, 3, 2, 2, 2};
        final int[] owner = new int[10];
        final int[] all = new int[10];
        final int[] late = new int[10];
        final int[] debts = new int[10];
        final List<Match> matches = new ArrayList<>();
        final List<Stake> stakes = new ArrayList<>();
        final List<Meeting> meetings = new ArrayList<>();
        final List<Act> acts = new ArrayList<>();
        final List<Story> stories = new ArrayList<>();
        int newsFirst = -1;
        int newsHour;
        String text = "";
        String rule = "";

        Model() {
            Arrays.fill(skills, 50);
            Arrays.setAll(owner, i -> i);
        }

        static boolean in(int v, int least, int most) {
            return least <= v && v <= most;
        }

        boolean noMatch(int m) {
            return m < 0 || m >= matches.size();
        }

        static int put(int[] row, int i, int v) {
            int was = row[i];
            row[i] = v;
            return was;
        }

        int skill(int side, int v) {
            return !in(side, 0, 7) ? UNKNOWN : !in(v, 0, 99) ? OUTSIDE : put(skills, side, v);
        }

        int match(int home, int guest, int referee) {
            if (!in(home, 0, 7) || !in(guest, 0, 7) || home == guest) {
                return UNKNOWN;
            }
            if (!in(referee, 0, 5)) {
                return OUTSIDE;
            }
            if (matches.size() == 12) {
                return FULL;
            }
            matches.add(new Match(home, guest, referee, new int[6], new int[6][3], new int[] {0, 10}));
            return matches.size() - 1;
        }

        int goal(int m, int quarter, int who) {
            if (noMatch(m)) {
                return UNKNOWN;
            }
            return !in(quarter, 0, 5) || !in(who, 0, 2) ? OUTSIDE : put(matches.get(m).goals, quarter, who);
        }

        int ofMatch(int m, int what) {
            if (noMatch(m)) {
                return UNKNOWN;
            }
            if (!in(what, 0, 7)) {
                return OUTSIDE;
            }
            Match g = matches.get(m);
            return new int[] {g.home, g.guest, g.referee, g.made(1, 6), g.made(2, 6), g.end(), g.more[0], g.more[1]}[what];
        }

        int hundredths(int side, int other) {
            return Math.min(45, Math.max(1, numbers[0] + (skills[side] - skills[other]) / 4));
        }

        BigInteger cases(Match g, int left, int lead, int end) {
            if (left == 0) {
                return 1 - Integer.signum(lead) == end ? BigInteger.ONE : BigInteger.ZERO;
            }
            int h = hundredths(g.home, g.guest);
            int a = hundredths(g.guest, g.home);
            return cases(g, left - 1, lead + 1, end).multiply(BigInteger.valueOf(h))
                .add(cases(g, left - 1, lead - 1, end).multiply(BigInteger.valueOf(a)))
                .add(cases(g, left - 1, lead, end).multiply(BigInteger.valueOf(100 - h - a)));
        }

        Fraction odds(int m, int done, int lead, int end) {
            return new Fraction(cases(matches.get(m), 6 - done, lead, end), BigInteger.valueOf(100).pow(6 - done));
        }

        long likely(int m, int done, int home, int guest, int end, int part) {
            if (noMatch(m)) {
                return LOST - 1;
            }
            if (!in(done, 0, 6) || !in(home, 0, 6) || !in(guest, 0, 6) || !in(end, 0, 2) || !in(part, 0, 1)) {
                return LOST - 2;
            }
            return odds(m, done, home - guest, end).part(part);
        }

        int set(int which, int v) {
            int[][] ranges = {{0, 40}, {0, 89}, {1, 10}, {1, 20}, {1, 4}};
            if (!in(which, 0, 4) || !in(v, ranges[which][0], ranges[which][1])) {
                return OUTSIDE;
            }
            return put(numbers, which, v);
        }

        int price(int m, int quarter, int end, int v) {
            if (noMatch(m)) {
                return UNKNOWN;
            }
            if (!in(quarter, 0, 5) || !in(end, 0, 2) || !(v == 0 || in(v, 100, 10000))) {
                return OUTSIDE;
            }
            return put(matches.get(m).prices[quarter], end, v);
        }

        int lean(int m, int quarter, int end) {
            if (noMatch(m) || !in(quarter, 0, 5) || !in(end, 0, 2)) {
                return REFUSED;
            }
            Match g = matches.get(m);
            if (g.prices[quarter][end] == 0) {
                return 0;
            }
            Fraction f = odds(m, quarter, g.made(1, quarter) - g.made(2, quarter), end);
            return 100000 / g.prices[quarter][end]
                - f.upper.multiply(BigInteger.valueOf(1000)).divide(f.lower).intValueExact();
        }

        int greatest(int m, int what) {
            if (noMatch(m) || !in(what, 0, 1)) {
                return REFUSED;
            }
            int best = Integer.MIN_VALUE;
            int place = -1;
            for (int q = 0; q < 6; q++) {
                for (int e = 0; e < 3; e++) {
                    if (lean(m, q, e) > best) {
                        best = lean(m, q, e);
                        place = 10 * q + e;
                    }
                }
            }
            return what == 0 ? best : place;
        }

        int stake(int hand, int m, int end, int minute, int sum) {
            if (!in(hand, 0, 9) || noMatch(m)) {
                return UNKNOWN;
            }
            if (!in(end, 0, 2) || !in(minute, 0, 89) || !in(sum, 1, 10000)) {
                return OUTSIDE;
            }
            if (stakes.size() == 40) {
                return FULL;
            }
            stakes.add(new Stake(hand, m, end, minute, sum));
            return stakes.size() - 1;
        }

        int gain(int hand) {
            if (!in(hand, 0, 9)) {
                return REFUSED;
            }
            int paid = 0;
            int laid = 0;
            for (Stake s : stakes) {
                Match g = matches.get(s.match);
                int price = g.prices[s.minute / 15][s.end];
                if (s.hand == hand && price != 0) {
                    laid += s.sum;
                    paid += g.end() == s.end ? s.sum * price / 100 : 0;
                }
            }
            return paid - laid;
        }

        int pairs(int a, int b) {
            int found = 0;
            for (int m = 0; m < matches.size(); m++) {
                for (int e = 0; e < 3; e++) {
                    found += pairs(of(a, m, e), of(b, m, e));
                }
            }
            return found;
        }

        List<Stake> of(int hand, int m, int e) {
            return stakes.stream().filter(s -> s.hand == hand && s.match == m && s.end == e).toList();
        }

        /** By sets of stakes of b that are used: the most pairs, after each stake of a. */
        int pairs(List<Stake> a, List<Stake> b) {
            int[] most = new int[1 << b.size()];
            for (Stake s : a) {
                for (int used = most.length - 1; used > 0; used--) {
                    for (int i = 0; i < b.size(); i++) {
                        if ((used >> i & 1) == 1 && answers(s, b.get(i))) {
                            most[used] = Math.max(most[used], most[used & ~(1 << i)] + 1);
                        }
                    }
                }
            }
            int best = 0;
            for (int n : most) {
                best = Math.max(best, n);
            }
            return best;
        }

        boolean answers(Stake s, Stake t) {
            return Math.abs(s.minute - t.minute) <= numbers[1]
                && Math.max(s.sum, t.sum) <= numbers[2] * Math.min(s.sum, t.sum);
        }

        int answer(int a, int b, int what) {
            if (!in(a, 0, 9) || !in(b, 0, 9) || a == b) {
                return UNKNOWN;
            }
            if (!in(what, 0, 1)) {
                return OUTSIDE;
            }
            return what == 0 ? pairs(a, b) : pairs(a, b) >= numbers[3] ? 1 : 0;
        }

        int one(int hand) {
            return in(hand, 0, 9) ? ones()[hand] : UNKNOWN;
        }

        /** By hands: the bits of those that are one with it, grown until nothing is new. */
        int[] ones() {
            int[] like = new int[10];
            int[] ones = new int[10];
            for (int a = 0; a < 10; a++) {
                for (int b = 0; b < 10; b++) {
                    like[a] |= a == b || pairs(a, b) >= numbers[3] ? 1 << b : 0;
                }
                ones[a] = 1 << a;
            }
            for (int round = 0; round < 10; round++) {
                for (int hand = 0; hand < 10; hand++) {
                    for (int a = 0; a < 10; a++) {
                        ones[hand] |= (ones[hand] >> a & 1) == 1 ? like[a] : 0;
                    }
                }
            }
            return ones;
        }

        int meet(int a, int b, int hour) {
            if (!in(a, 0, 9) || !in(b, 0, 9) || a == b) {
                return UNKNOWN;
            }
            if (!in(hour, 0, 999)) {
                return OUTSIDE;
            }
            if (meetings.size() == 30) {
                return FULL;
            }
            meetings.add(new Meeting(a, b, hour));
            return meetings.size();
        }

        int knew(int first, int hour, int person) {
            if (!in(first, 0, 9) || !in(person, 0, 9)) {
                return UNKNOWN;
            }
            if (!in(hour, 0, 999)) {
                return OUTSIDE;
            }
            int[] since = new int[10];
            Arrays.fill(since, NONE);
            since[first] = hour;
            for (int h = hour; h <= 999; h++) {
                for (Meeting m : meetings) {
                    if (m.hour == h && since[m.a] != NONE && since[m.b] == NONE) {
                        since[m.b] = h;
                    } else if (m.hour == h && since[m.b] != NONE && since[m.a] == NONE) {
                        since[m.a] = h;
                    }
                }
            }
            return since[person];
        }

        int own(int hand, int person) {
            return in(hand, 0, 9) && in(person, 0, 9) ? put(owner, hand, person) : UNKNOWN;
        }

        int begin(int m, int hour) {
            return noMatch(m) ? UNKNOWN : in(hour, 0, 999) ? put(matches.get(m).more, 0, hour) : OUTSIDE;
        }

        int news(int first, int hour) {
            if (!in(first, 0, 9)) {
                return UNKNOWN;
            }
            if (!in(hour, 0, 999)) {
                return OUTSIDE;
            }
            newsFirst = first;
            newsHour = hour;
            return 1;
        }

        int explained(int m, int what) {
            if (noMatch(m)) {
                return UNKNOWN;
            }
            if (!in(what, 0, 1)) {
                return OUTSIDE;
            }
            int[] counts = new int[2];
            for (Stake s : stakes) {
                if (s.match == m) {
                    int hour = matches.get(m).more[0] + (s.minute >= 60 ? 1 : 0);
                    int since = newsFirst < 0 ? NONE : knew(newsFirst, newsHour, owner[s.hand]);
                    counts[since != NONE && since <= hour ? 0 : 1]++;
                }
            }
            return counts[what];
        }

        int moves(int player, int n, int lateOnes) {
            if (!in(player, 0, 9)) {
                return UNKNOWN;
            }
            if (!in(n, 0, 200) || !in(lateOnes, 0, n)) {
                return OUTSIDE;
            }
            all[player] = n;
            late[player] = lateOnes;
            return 1;
        }

        static BigInteger choose(int n, int k) {
            return k == 0 || k == n ? BigInteger.ONE : choose(n - 1, k - 1).add(choose(n - 1, k));
        }

        long late(int player, int w, int part) {
            if (!in(player, 0, 9)) {
                return LOST - 1;
            }
            if (!in(w, 1, 19) || !in(part, 0, 1)) {
                return LOST - 2;
            }
            if (all[player] == 0) {
                return LOST - 3;
            }
            int n = Math.min(12, all[player]);
            int k = all[player] > 12 ? late[player] * 12 / all[player] : late[player];
            BigInteger sum = BigInteger.ZERO;
            for (int i = k; i <= n; i++) {
                sum = sum.add(choose(n, i).multiply(BigInteger.valueOf(w).pow(i))
                    .multiply(BigInteger.valueOf(20 - w).pow(n - i)));
            }
            return new Fraction(sum, BigInteger.valueOf(20).pow(n)).part(part);
        }

        int debts(int player, int v) {
            return !in(player, 0, 9) ? UNKNOWN : in(v, 0, 1000) ? put(debts, player, v) : OUTSIDE;
        }

        int act(int m, int players) {
            if (noMatch(m)) {
                return UNKNOWN;
            }
            if (!in(players, 1, 1023)) {
                return OUTSIDE;
            }
            if (acts.size() == 12) {
                return FULL;
            }
            acts.add(new Act(m, players));
            return acts.size() - 1;
        }

        int prices(int players) {
            int sum = 0;
            for (int i = 0; i < 10; i++) {
                sum += (players >> i & 1) * (1000 - debts[i]);
            }
            return sum;
        }

        int needed(int m, int what) {
            if (noMatch(m)) {
                return UNKNOWN;
            }
            if (!in(what, 0, 2)) {
                return OUTSIDE;
            }
            List<Act> mine = acts.stream().filter(a -> a.match == m).toList();
            List<Integer> sets = new ArrayList<>();
            int must = 0;
            for (int set = 0; set < 1024; set++) {
                int players = set;
                if (mine.stream().allMatch(a -> (a.players & players) != 0)) {
                    sets.add(set);
                }
            }
            for (int p = 0; p < 10; p++) {
                int others = 1023 & ~(1 << p);
                if (mine.stream().anyMatch(a -> (a.players & others) == 0)) {
                    must |= 1 << p;
                }
            }
            sets.sort(Comparator.<Integer>comparingInt(Integer::bitCount).thenComparingInt(this::prices)
                .thenComparingInt(s -> s));
            return what == 0 ? sets.get(0) : what == 1 ? prices(sets.get(0)) : must;
        }

        boolean linked(int a, int b, int[] ones) {
            if (a == b || matches.get(a).referee == matches.get(b).referee) {
                return true;
            }
            return stakes.stream().anyMatch(s -> s.match == a
                && stakes.stream().anyMatch(t -> t.match == b && (ones[s.hand] >> t.hand & 1) == 1));
        }

        int joined(int a, int b) {
            return noMatch(a) || noMatch(b) ? UNKNOWN : linked(a, b, ones()) ? 1 : 0;
        }

        /** What is reached from a match, if the link of two is cut (-1: none is). */
        int reach(int start, int cutA, int cutB) {
            int[] ones = ones();
            int bits = 1 << start;
            for (int round = 0; round < 12; round++) {
                for (int a = 0; a < matches.size(); a++) {
                    for (int b = 0; b < matches.size(); b++) {
                        boolean cut = a == cutA && b == cutB || a == cutB && b == cutA;
                        if ((bits >> a & 1) == 1 && (bits >> b & 1) == 0 && !cut && linked(a, b, ones)) {
                            bits |= 1 << b;
                        }
                    }
                }
            }
            return bits;
        }

        int ring(int m) {
            return noMatch(m) ? UNKNOWN : reach(m, -1, -1);
        }

        int holds(int a, int b) {
            if (noMatch(a) || noMatch(b)) {
                return UNKNOWN;
            }
            return joined(a, b) == 0 ? NO : 1 - (reach(a, a, b) >> b & 1);
        }

        int story(int person, int place, int from, int to) {
            if (!in(person, 0, 9)) {
                return UNKNOWN;
            }
            if (!in(place, 0, 9) || !in(from, 0, 999) || !in(to, from, 999)) {
                return OUTSIDE;
            }
            if (stories.size() == 10) {
                return FULL;
            }
            stories.add(new Story(person, place, from, to));
            return stories.size() - 1;
        }

        boolean canBe(int falseOnes) {
            for (int a = 0; a < stories.size(); a++) {
                for (int b = 0; b < a; b++) {
                    Story s = stories.get(a);
                    Story t = stories.get(b);
                    boolean kept = (falseOnes >> a & 1) == 0 && (falseOnes >> b & 1) == 0;
                    if (kept && s.person == t.person && s.place != t.place
                            && Math.max(s.from, t.from) <= Math.min(s.to, t.to)) {
                        return false;
                    }
                }
            }
            return true;
        }

        int untrue(int what) {
            if (!in(what, 0, 2)) {
                return OUTSIDE;
            }
            List<Integer> sets = new ArrayList<>();
            for (int set = 0; set < 1 << stories.size(); set++) {
                if (canBe(set)) {
                    sets.add(set);
                }
            }
            int fewest = sets.stream().mapToInt(Integer::bitCount).min().getAsInt();
            int sure = sets.stream().filter(s -> Integer.bitCount(s) == fewest).reduce(-1, (s, t) -> s & t);
            int least = sets.stream().filter(s -> Integer.bitCount(s) == fewest).findFirst().get();
            return what == 0 ? least : what == 1 ? fewest : sure;
        }

        int take(int side, int v) {
            return !in(side, 0, 7) ? UNKNOWN : !in(v, 0, 99) ? OUTSIDE : put(taken, side, v);
        }

        int points(int side, int more) {
            int points = -taken[side] - more;
            for (Match g : matches) {
                points += g.end() == 1 && (g.home == side || g.guest == side) ? 1 : 0;
                points += g.end() == 0 && g.home == side || g.end() == 2 && g.guest == side ? 3 : 0;
            }
            return points;
        }

        int balance(int side) {
            int sum = 0;
            for (Match g : matches) {
                sum += g.home == side ? g.made(1, 6) - g.made(2, 6) : 0;
                sum += g.guest == side ? g.made(2, 6) - g.made(1, 6) : 0;
            }
            return sum;
        }

        List<Integer> order(int poorer, int by) {
            List<Integer> sides = new ArrayList<>();
            for (int side = 0; side < 8; side++) {
                int s = side;
                if (matches.stream().anyMatch(g -> g.home == s || g.guest == s)) {
                    sides.add(side);
                }
            }
            sides.sort(Comparator.<Integer>comparingInt(s -> -points(s, s == poorer ? by : 0))
                .thenComparingInt(s -> -balance(s)).thenComparingInt(s -> s));
            return sides;
        }

        int table(int i) {
            List<Integer> sides = order(-1, 0);
            return i == -1 ? sides.size() : in(i, 0, sides.size() - 1) ? sides.get(i) : NONE;
        }

        boolean down(int side, int more) {
            List<Integer> sides = order(side, more);
            return sides.subList(Math.max(0, sides.size() - numbers[4]), sides.size()).contains(side);
        }

        int ofSide(int side, int what) {
            if (!order(-1, 0).contains(side) || !in(what, 0, 3)) {
                return REFUSED;
            }
            if (what < 3) {
                return what == 0 ? points(side, 0) : what == 1 ? balance(side) : down(side, 0) ? 1 : 0;
            }
            for (int more = 0; more <= 200; more++) {
                if (down(side, more)) {
                    return more;
                }
            }
            return NONE;
        }

        int say(int sign) {
            if (!in(sign, 33, 126)) {
                return OUTSIDE;
            }
            if (text.length() == 40) {
                return FULL;
            }
            text += (char) sign;
            return text.length();
        }

        int wipe() {
            int was = text.length();
            text = "";
            return was;
        }

        static final Pattern PROOF = Pattern.compile("[ghxrn][<>][0-9]{1,3}([&|][ghxrn][<>][0-9]{1,3})*");

        int fault() {
            for (int n = 1; n <= text.length(); n++) {
                String begun = text.substring(0, n);
                boolean goesOn = false;
                for (String rest : new String[] {"", "1", "<1", "g<1"}) {
                    goesOn |= PROOF.matcher(begun + rest).matches();
                }
                if (!goesOn) {
                    return n - 1;
                }
            }
            return PROOF.matcher(text).matches() ? NONE : text.length();
        }

        int rule() {
            if (fault() != NONE) {
                return NO;
            }
            rule = text;
            text = "";
            return 1;
        }

        int fact(int m, int what) {
            switch (what) {
                case 1: return greatest(m, 0);
                case 2:
                    int[] ones = ones();
                    return (int) stakes.stream().filter(s -> s.match == m).mapToInt(Stake::hand).distinct()
                        .filter(h -> Integer.bitCount(ones[h]) > 1).count();
                case 3: return explained(m, 0);
                case 4: return Integer.bitCount(ring(m));
                default: return Integer.bitCount(needed(m, 0));
            }
        }

        int proof(int m, int what) {
            if (noMatch(m) || !in(what, 0, 5)) {
                return REFUSED;
            }
            if (what > 0) {
                return fact(m, what);
            }
            if (rule.isEmpty()) {
                return 0;
            }
            for (String both : rule.split("\\|")) {
                boolean all = true;
                for (String test : both.split("&")) {
                    int fact = fact(m, 1 + "ghxrn".indexOf(test.charAt(0)));
                    int number = Integer.parseInt(test.substring(2));
                    all &= test.charAt(1) == '<' ? fact < number : fact > number;
                }
                if (all) {
                    return 1;
                }
            }
            return 0;
        }

        int cost(int m, int v) {
            return noMatch(m) ? UNKNOWN : in(v, 0, 100) ? put(matches.get(m).more, 1, v) : OUTSIDE;
        }

        int looks(int purse, int what) {
            if (!in(purse, 0, 1000) || !in(what, 0, 1)) {
                return OUTSIDE;
            }
            int[] leans = new int[matches.size()];
            Arrays.setAll(leans, m -> greatest(m, 0));
            int best = 0;
            int[] bestWorth = {0, 0};
            for (int set = 1; set < 1 << leans.length; set++) {
                int[] worth = {0, 0};
                boolean fits = true;
                for (int m = 0; m < leans.length; m++) {
                    if ((set >> m & 1) == 1) {
                        worth[0] += leans[m];
                        worth[1] += matches.get(m).more[1];
                        fits &= leans[m] > 0;
                    }
                }
                if (fits && worth[1] <= purse
                        && (worth[0] > bestWorth[0] || worth[0] == bestWorth[0] && worth[1] < bestWorth[1])) {
                    best = set;
                    bestWorth = worth;
                }
            }
            return what == 0 ? best : bestWorth[0];
        }

        int told(int what) {
            if (!in(what, 0, 5)) {
                return OUTSIDE;
            }
            return new int[] {matches.size(), stakes.size(), meetings.size(), acts.size(), stories.size(),
                text.length()}[what];
        }
    }

    /** The document promises nothing of an object after so many calls. */
    private static final int MOST_CALLS = 512;
    private static int wrong = 0;
    private static int calls = 0;
    private static final int[] EXTREMES = {Integer.MIN_VALUE, Integer.MIN_VALUE + 1, -65536, -7, -2, -1, 3, 6, 7, 8, 9,
        10, 11, 12, 13, 19, 20, 21, 40, 41, 45, 46, 89, 90, 99, 100, 101, 200, 201, 999, 1000, 1001, 1023, 1024, 9999,
        10000, 10001, 65536, Integer.MAX_VALUE - 1, Integer.MAX_VALUE};

    private final Random random;
    private final SoldMatches program = new SoldMatches();
    private final Model model = new Model();
    private final int seed;
    private final int[] kinds;
    private final int wildness;
    private final int hands;
    private final int matches;
    private int callsHere = 0;

    private ModelTest(int seed) {
        this.seed = seed;
        random = new Random(seed);
        wildness = seed % 5 == 0 ? 1 : new int[] {0, 2, 5, 30}[random.nextInt(4)];
        hands = 2 + random.nextInt(5);
        matches = seed % 5 == 0 ? 12 : 1 + random.nextInt(12);
        kinds = new int[40];
        for (int i = 0; i < 40; i++) {
            kinds[i] = random.nextInt(3) == 0 ? 6 : 1;
        }
    }

    /** A number of a range, or, now and then, one that may be far outside. */
    private int pick(int least, int most) {
        if (random.nextInt(100) < wildness) {
            return random.nextBoolean() ? EXTREMES[random.nextInt(EXTREMES.length)] : least - 1 + random.nextInt(2) * (most - least + 2);
        }
        return least + random.nextInt(most - least + 1);
    }

    private int pickMatch() {
        return pick(0, Math.max(0, model.matches.size() - 1));
    }

    private int pickHour() {
        return random.nextInt(4) == 0 ? pick(0, 999) : pick(0, 25);
    }

    private int pickSign() {
        if (random.nextInt(60) == 0) {
            return pick(33, 126);
        }
        int n = model.text.length();
        String wanted = "";
        String[] ends = {"", "1", "<1", "g<1"};
        String[] signs = {"0123456789&|", "0123456789", "<>", "ghxrn"};
        for (int i = 0; i < 4; i++) {
            if (Model.PROOF.matcher(model.text + ends[i]).matches()) {
                wanted = signs[i];
                break;
            }
        }
        return wanted.isEmpty() || random.nextInt(80) == 0 ? "ghxrn<>0123456789&|".charAt(n % 19)
            : wanted.charAt(random.nextInt(wanted.length()));
    }

    private void due(String call, long got, long want) {
        calls++;
        callsHere++;
        if (callsHere <= MOST_CALLS && got != want) {
            wrong++;
            if (wrong < 50) {
                System.out.println("seed " + seed + ": " + call + " answered " + got + ", due is " + want);
            }
        }
    }

    private int pickKind() {
        int sum = 0;
        for (int k : kinds) {
            sum += k;
        }
        int left = random.nextInt(sum);
        for (int i = 0; i < 40; i++) {
            left -= kinds[i];
            if (left < 0) {
                return i;
            }
        }
        return 0;
    }

    private void call(int kind) {
        int a;
        int b;
        int c;
        int d;
        int e;
        switch (kind) {
            case 0: a = pick(0, 7); b = pick(0, 99); due("skill(" + a + ", " + b + ")", program.skill(a, b), model.skill(a, b)); break;
            case 1:
                if (model.matches.size() >= matches && random.nextInt(20) > 0) {
                    break;
                }
                a = pick(0, 7); b = pick(0, 7); c = pick(0, 5);
                due("match(" + a + ", " + b + ", " + c + ")", program.match(a, b, c), model.match(a, b, c));
                break;
            case 2: a = pickMatch(); b = pick(0, 5); c = pick(0, 2); due("goal(" + a + ", " + b + ", " + c + ")", program.goal(a, b, c), model.goal(a, b, c)); break;
            case 3: a = pickMatch(); b = pick(0, 7); due("ofMatch(" + a + ", " + b + ")", program.ofMatch(a, b), model.ofMatch(a, b)); break;
            case 4:
                a = pickMatch(); b = pick(0, 6); c = pick(0, 6); d = pick(0, 6); e = pick(0, 2);
                int part = pick(0, 1);
                due("likely(" + a + ", " + b + ", " + c + ", " + d + ", " + e + ", " + part + ")",
                    program.likely(a, b, c, d, e, part), model.likely(a, b, c, d, e, part));
                break;
            case 5:
                a = pick(0, 4);
                b = a == 3 ? pick(1, 3) : a == 1 ? pick(0, 30) : a == 0 ? pick(0, 40) : pick(1, 4);
                due("set(" + a + ", " + b + ")", program.set(a, b), model.set(a, b));
                break;
            case 6:
                a = pickMatch(); b = pick(0, 5); c = pick(0, 2); d = random.nextInt(5) == 0 ? pick(0, 0) : random.nextInt(3) == 0 ? pick(100, 10000) : pick(100, 600);
                due("price(" + a + ", " + b + ", " + c + ", " + d + ")", program.price(a, b, c, d), model.price(a, b, c, d));
                break;
            case 7: a = pickMatch(); b = pick(0, 5); c = pick(0, 2); due("lean(" + a + ", " + b + ", " + c + ")", program.lean(a, b, c), model.lean(a, b, c)); break;
            case 8: a = pickMatch(); b = pick(0, 1); due("greatest(" + a + ", " + b + ")", program.greatest(a, b), model.greatest(a, b)); break;
            case 9:
                a = pick(0, hands - 1); b = pickMatch(); c = pick(0, 2); d = random.nextInt(3) == 0 ? pick(0, 89) : pick(20, 35);
                e = random.nextInt(3) == 0 ? pick(1, 10000) : pick(50, 200);
                if (model.of(a, b, c).size() < 13) {
                    due("stake(" + a + ", " + b + ", " + c + ", " + d + ", " + e + ")", program.stake(a, b, c, d, e), model.stake(a, b, c, d, e));
                }
                break;
            case 10: a = pick(0, 9); due("gain(" + a + ")", program.gain(a), model.gain(a)); break;
            case 11: a = pick(0, hands - 1); b = pick(0, hands - 1); c = pick(0, 1); due("answer(" + a + ", " + b + ", " + c + ")", program.answer(a, b, c), model.answer(a, b, c)); break;
            case 12: a = pick(0, hands); due("one(" + a + ")", program.one(a), model.one(a)); break;
            case 13: a = pick(0, 9); b = pick(0, 9); c = pickHour(); due("meet(" + a + ", " + b + ", " + c + ")", program.meet(a, b, c), model.meet(a, b, c)); break;
            default: callMore(kind);
        }
    }

    private void callMore(int kind) {
        int a;
        int b;
        int c;
        int d;
        switch (kind) {
            case 14: a = pick(0, 9); b = pickHour(); c = pick(0, 9); due("knew(" + a + ", " + b + ", " + c + ")", program.knew(a, b, c), model.knew(a, b, c)); break;
            case 15: a = pick(0, 9); b = pick(0, 9); due("own(" + a + ", " + b + ")", program.own(a, b), model.own(a, b)); break;
            case 16: a = pickMatch(); b = pickHour(); due("begin(" + a + ", " + b + ")", program.begin(a, b), model.begin(a, b)); break;
            case 17: a = pick(0, 9); b = pickHour(); due("news(" + a + ", " + b + ")", program.news(a, b), model.news(a, b)); break;
            case 18: a = pickMatch(); b = pick(0, 1); due("explained(" + a + ", " + b + ")", program.explained(a, b), model.explained(a, b)); break;
            case 19:
                a = pick(0, 9); b = random.nextBoolean() ? pick(0, 15) : pick(0, 200); c = pick(0, Math.max(0, Math.min(b, 200)));
                due("moves(" + a + ", " + b + ", " + c + ")", program.moves(a, b, c), model.moves(a, b, c));
                break;
            case 20: a = pick(0, 9); b = pick(1, 19); c = pick(0, 1); due("late(" + a + ", " + b + ", " + c + ")", program.late(a, b, c), model.late(a, b, c)); break;
            case 21: a = pick(0, 9); b = random.nextInt(3) == 0 ? pick(0, 1000) : 100 * pick(0, 3); due("debts(" + a + ", " + b + ")", program.debts(a, b), model.debts(a, b)); break;
            case 22:
                a = pickMatch(); b = random.nextBoolean() ? pick(1, 1023) : 1 << random.nextInt(10) | 1 << random.nextInt(10);
                due("act(" + a + ", " + b + ")", program.act(a, b), model.act(a, b));
                break;
            case 23: a = pickMatch(); b = pick(0, 2); due("needed(" + a + ", " + b + ")", program.needed(a, b), model.needed(a, b)); break;
            case 24: a = pickMatch(); b = pickMatch(); due("joined(" + a + ", " + b + ")", program.joined(a, b), model.joined(a, b)); break;
            case 25: a = pickMatch(); due("ring(" + a + ")", program.ring(a), model.ring(a)); break;
            case 26: a = pickMatch(); b = pickMatch(); due("holds(" + a + ", " + b + ")", program.holds(a, b), model.holds(a, b)); break;
            case 27:
                a = pick(0, 2); b = pick(0, 3); c = pick(0, 40); d = random.nextInt(4) == 0 ? pick(0, 999) : c + random.nextInt(15);
                due("story(" + a + ", " + b + ", " + c + ", " + d + ")", program.story(a, b, c, d), model.story(a, b, c, d));
                break;
            case 28: a = pick(0, 2); due("untrue(" + a + ")", program.untrue(a), model.untrue(a)); break;
            case 29: a = pick(0, 7); b = random.nextInt(3) == 0 ? pick(0, 99) : pick(0, 6); due("take(" + a + ", " + b + ")", program.take(a, b), model.take(a, b)); break;
            case 30: a = pick(-1, 8); due("table(" + a + ")", program.table(a), model.table(a)); break;
            case 31: a = pick(0, 7); b = pick(0, 3); due("ofSide(" + a + ", " + b + ")", program.ofSide(a, b), model.ofSide(a, b)); break;
            case 32:
                for (int i = random.nextInt(12); i >= 0; i--) {
                    a = pickSign();
                    due("say(" + a + ")", program.say(a), model.say(a));
                }
                break;
            case 33: if (random.nextInt(3) == 0) { due("wipe()", program.wipe(), model.wipe()); } break;
            case 34: due("fault()", program.fault(), model.fault()); break;
            case 35: due("rule()", program.rule(), model.rule()); break;
            case 36: a = pickMatch(); b = random.nextBoolean() ? 0 : pick(0, 5); due("proof(" + a + ", " + b + ")", program.proof(a, b), model.proof(a, b)); break;
            case 37: a = pickMatch(); b = pick(0, 100); due("cost(" + a + ", " + b + ")", program.cost(a, b), model.cost(a, b)); break;
            case 38: a = random.nextInt(3) == 0 ? pick(0, 1000) : pick(0, 150); b = pick(0, 1); due("looks(" + a + ", " + b + ")", program.looks(a, b), model.looks(a, b)); break;
            default: a = pick(0, 5); due("told(" + a + ")", program.told(a), model.told(a));
        }
    }

    /** All that can be full is full: the edges of every row are used. */
    private void fill() {
        int[] filling = {1, 9, 13, 22, 27};
        for (int kind : filling) {
            for (int i = 0; i < 60; i++) {
                call(kind);
            }
        }
        while (model.text.length() < 40) {
            call(32);
        }
    }

    private void run() {
        if (seed % 5 == 0) {
            fill();
        }
        for (int i = random.nextInt(matches + 1); i > 0; i--) {
            call(1);
        }
        for (int i = random.nextInt(45); i > 0; i--) {
            call(9);
        }
        for (int i = 0; i < 300 && callsHere < MOST_CALLS; i++) {
            call(pickKind());
        }
    }

    public static void main(String[] args) {
        int runs = args.length > 0 ? Integer.parseInt(args[0]) : 250;
        for (int seed = 1; seed <= runs && wrong < 50; seed++) {
            new ModelTest(seed).run();
        }
        System.out.println(calls + " calls, " + wrong + " answers are not as due");
        if (wrong != 0) {
            System.exit(1);
        }
    }
}
