import java.util.Arrays;

/**
 * Matches that somebody may have bought: how likely each end is, where prices lean beyond that, whose stakes
 * are one, who could have known, who must be in it, and what all that proves.
 *
 * <p>All rows are made with the object and used again, so that no call makes an object of its own.
 */
public final class SoldMatches {
    public static final int NONE = -6, UNKNOWN = -1, OUTSIDE = -2, STATE = -3, FULL = -4, NO = -5;
    public static final long LOST = -1000000000000000000L;

    /** The refusal of calls whose answers may be small numbers below 0. */
    private static final int REFUSED = -2000000000;

    private static final int SIDES = 8, MATCHES = 12, REFEREES = 6, QUARTERS = 6, ENDS = 3;
    private static final int SPOTS = QUARTERS * ENDS;
    private static final int HANDS = 10, STAKES = 40, PERSONS = 10, MEETINGS = 30, LAST_HOUR = 999;
    private static final int PLAYERS = 10, ACTS = 12, STORIES = 10, PLACES = 10, SIGNS = 40, FACTS = 5;
    private static final int LOOKED_AT = 12, TWENTIETHS = 20, MOST_TAKEN_MORE = 200;

    /** Of BASE, NEAR, TIMES, TIES, DOWN: the least and the greatest that they may be. */
    private static final int[] LEAST = {0, 0, 1, 1, 1};
    private static final int[] GREATEST = {40, 89, 10, 20, 4};

    private final Games games;
    private final Bets bets;
    private final Rumour rumour;
    private final Squad squad;
    private final Links links;
    private final Tales tales;
    private final Ranks ranks;
    private final Clause clause;
    private final Purse purses;
    private final int[] facts;

    public SoldMatches() {
        games = new Games();
        bets = new Bets();
        rumour = new Rumour();
        squad = new Squad();
        links = new Links();
        tales = new Tales();
        ranks = new Ranks();
        clause = new Clause();
        purses = new Purse();
        facts = new int[FACTS];
    }

    // ---- 1 matches

    public int skill(int side, int v) {
        if (!within(side, 0, SIDES - 1)) {
            return UNKNOWN;
        }
        return within(v, 0, 99) ? exchange(games.skills, side, v) : OUTSIDE;
    }

    public int match(int home, int guest, int referee) {
        if (!within(home, 0, SIDES - 1) || !within(guest, 0, SIDES - 1) || home == guest) {
            return UNKNOWN;
        }
        if (!within(referee, 0, REFEREES - 1)) {
            return OUTSIDE;
        }
        return games.count < MATCHES ? games.add(home, guest, referee) : FULL;
    }

    public int goal(int match, int quarter, int who) {
        if (!games.has(match)) {
            return UNKNOWN;
        }
        if (!within(quarter, 0, QUARTERS - 1) || !within(who, 0, 2)) {
            return OUTSIDE;
        }
        return exchange(games.goals, match * QUARTERS + quarter, who);
    }

    public int ofMatch(int match, int what) {
        if (!games.has(match)) {
            return UNKNOWN;
        }
        switch (what) {
            case 0: return games.home[match];
            case 1: return games.guest[match];
            case 2: return games.referee[match];
            case 3: return games.goalsAhead(match, QUARTERS, 1);
            case 4: return games.goalsAhead(match, QUARTERS, 2);
            case 5: return games.endOf(match);
            case 6: return games.hour[match];
            case 7: return games.fee[match];
            default: return OUTSIDE;
        }
    }

    public long likely(int match, int done, int home, int guest, int end, int part) {
        if (!games.has(match)) {
            return LOST + UNKNOWN;
        }
        if (!within(done, 0, QUARTERS) || !within(home, 0, QUARTERS) || !within(guest, 0, QUARTERS)
                || !within(end, 0, ENDS - 1) || !within(part, 0, 1)) {
            return LOST + OUTSIDE;
        }
        games.weigh(match, done, home - guest, end);
        return games.odds.inLowestTerms(part);
    }

    public int set(int which, int v) {
        if (!within(which, 0, LEAST.length - 1) || !within(v, LEAST[which], GREATEST[which])) {
            return OUTSIDE;
        }
        int was;
        switch (which) {
            case 0: was = games.base; games.base = v; break;
            case 1: was = bets.near; bets.near = v; break;
            case 2: was = bets.times; bets.times = v; break;
            case 3: was = bets.ties; bets.ties = v; break;
            default: was = ranks.down; ranks.down = v; break;
        }
        return was;
    }

    // ---- 2 prices, stakes

    public int price(int match, int quarter, int end, int v) {
        if (!games.has(match)) {
            return UNKNOWN;
        }
        if (!isSpot(quarter, end) || v != 0 && !within(v, 100, 10000)) {
            return OUTSIDE;
        }
        return exchange(games.prices, match * SPOTS + quarter * ENDS + end, v);
    }

    public int lean(int match, int quarter, int end) {
        return games.has(match) && isSpot(quarter, end) ? games.leanAt(match, quarter, end) : REFUSED;
    }

    public int greatest(int match, int what) {
        if (!games.has(match) || !within(what, 0, 1)) {
            return REFUSED;
        }
        games.seekTop(match);
        return what == 0 ? games.topLean : games.topSpot;
    }

    public int stake(int hand, int match, int end, int minute, int sum) {
        if (!isHand(hand) || !games.has(match)) {
            return UNKNOWN;
        }
        if (!within(end, 0, ENDS - 1) || !within(minute, 0, 89) || !within(sum, 1, 10000)) {
            return OUTSIDE;
        }
        return bets.count < STAKES ? bets.add(hand, match, end, minute, sum) : FULL;
    }

    public int gain(int hand) {
        return isHand(hand) ? bets.gainOf(hand, games) : REFUSED;
    }

    // ---- 3 hands

    public int answer(int a, int b, int what) {
        if (!isHand(a) || !isHand(b) || a == b) {
            return UNKNOWN;
        }
        if (!within(what, 0, 1)) {
            return OUTSIDE;
        }
        int pairs = bets.countPairs(a, b);
        return what == 0 ? pairs : asNumber(pairs >= bets.ties);
    }

    public int one(int hand) {
        if (!isHand(hand)) {
            return UNKNOWN;
        }
        bets.groupHands();
        return bets.groups[hand];
    }

    // ---- 4 news

    public int meet(int a, int b, int hour) {
        if (!isPerson(a) || !isPerson(b) || a == b) {
            return UNKNOWN;
        }
        if (!isHour(hour)) {
            return OUTSIDE;
        }
        return rumour.count < MEETINGS ? rumour.add(a, b, hour) : FULL;
    }

    public int knew(int first, int hour, int person) {
        if (!isPerson(first) || !isPerson(person)) {
            return UNKNOWN;
        }
        if (!isHour(hour)) {
            return OUTSIDE;
        }
        rumour.spread(first, hour);
        return rumour.known[person];
    }

    public int own(int hand, int person) {
        return isHand(hand) && isPerson(person) ? exchange(rumour.owner, hand, person) : UNKNOWN;
    }

    public int begin(int match, int hour) {
        if (!games.has(match)) {
            return UNKNOWN;
        }
        return isHour(hour) ? exchange(games.hour, match, hour) : OUTSIDE;
    }

    public int news(int first, int hour) {
        if (!isPerson(first)) {
            return UNKNOWN;
        }
        if (!isHour(hour)) {
            return OUTSIDE;
        }
        rumour.first = first;
        rumour.since = hour;
        return 1;
    }

    public int explained(int match, int what) {
        if (!games.has(match)) {
            return UNKNOWN;
        }
        if (!within(what, 0, 1)) {
            return OUTSIDE;
        }
        int known = rumour.countExplained(match, games.hour[match], bets);
        return what == 0 ? known : bets.countOn(match) - known;
    }

    // ---- 5 players

    public int moves(int player, int all, int late) {
        if (!isPlayer(player)) {
            return UNKNOWN;
        }
        if (!within(all, 0, 200) || !within(late, 0, all)) {
            return OUTSIDE;
        }
        squad.moves[player] = all;
        squad.lateMoves[player] = late;
        return 1;
    }

    public long late(int player, int w, int part) {
        if (!isPlayer(player)) {
            return LOST + UNKNOWN;
        }
        if (!within(w, 1, TWENTIETHS - 1) || !within(part, 0, 1)) {
            return LOST + OUTSIDE;
        }
        if (squad.moves[player] == 0) {
            return LOST + STATE;
        }
        squad.weighLate(player, w);
        return squad.odds.inLowestTerms(part);
    }

    public int debts(int player, int v) {
        if (!isPlayer(player)) {
            return UNKNOWN;
        }
        return within(v, 0, 1000) ? exchange(squad.debts, player, v) : OUTSIDE;
    }

    public int act(int match, int players) {
        if (!games.has(match)) {
            return UNKNOWN;
        }
        if (!within(players, 1, (1 << PLAYERS) - 1)) {
            return OUTSIDE;
        }
        return squad.acts < ACTS ? squad.addAct(match, players) : FULL;
    }

    public int needed(int match, int what) {
        if (!games.has(match)) {
            return UNKNOWN;
        }
        switch (what) {
            case 0: return squad.fewestFor(match);
            case 1: return squad.priceOf(squad.fewestFor(match));
            case 2: return squad.mustFor(match);
            default: return OUTSIDE;
        }
    }

    // ---- 6 rings

    public int joined(int a, int b) {
        if (!games.has(a) || !games.has(b)) {
            return UNKNOWN;
        }
        links.build(games, bets);
        return asNumber(links.areLinked(a, b));
    }

    public int ring(int match) {
        if (!games.has(match)) {
            return UNKNOWN;
        }
        links.build(games, bets);
        links.close();
        return links.rows[match];
    }

    public int holds(int a, int b) {
        if (!games.has(a) || !games.has(b)) {
            return UNKNOWN;
        }
        links.build(games, bets);
        if (!links.areLinked(a, b)) {
            return NO;
        }
        if (a == b) {
            return 0;
        }
        links.cut(a, b);
        links.close();
        return asNumber(!links.areLinked(a, b));
    }

    // ---- 7 stories

    public int story(int person, int place, int from, int to) {
        if (!isPerson(person)) {
            return UNKNOWN;
        }
        if (!within(place, 0, PLACES - 1) || !isHour(from) || !isHour(to) || from > to) {
            return OUTSIDE;
        }
        return tales.count < STORIES ? tales.add(person, place, from, to) : FULL;
    }

    public int untrue(int what) {
        switch (what) {
            case 0: tales.sift(); return tales.fewest;
            case 1: tales.sift(); return Integer.bitCount(tales.fewest);
            case 2: tales.sift(); return tales.sure;
            default: return OUTSIDE;
        }
    }

    // ---- 8 tables, proof, looks

    public int take(int side, int v) {
        if (!within(side, 0, SIDES - 1)) {
            return UNKNOWN;
        }
        return within(v, 0, 99) ? exchange(ranks.taken, side, v) : OUTSIDE;
    }

    public int table(int i) {
        ranks.reckon(games);
        return i == -1 ? ranks.size : ranks.sideAt(i);
    }

    public int ofSide(int side, int what) {
        if (!within(side, 0, SIDES - 1)) {
            return REFUSED;
        }
        ranks.reckon(games);
        if (!ranks.plays[side]) {
            return REFUSED;
        }
        switch (what) {
            case 0: return ranks.points[side];
            case 1: return ranks.balance[side];
            case 2: return asNumber(ranks.isDown(side));
            case 3: return ranks.takingToGoDown(side);
            default: return REFUSED;
        }
    }

    public int say(int sign) {
        if (!within(sign, 33, 126)) {
            return OUTSIDE;
        }
        return clause.count < SIGNS ? clause.add(sign) : FULL;
    }

    public int wipe() {
        int was = clause.count;
        clause.count = 0;
        return was;
    }

    public int fault() {
        return clause.firstFault();
    }

    public int rule() {
        if (clause.firstFault() != NONE) {
            return NO;
        }
        clause.hold();
        return 1;
    }

    public int proof(int match, int what) {
        if (!games.has(match) || !within(what, 0, FACTS)) {
            return REFUSED;
        }
        if (what > 0) {
            return factOf(match, what - 1);
        }
        for (int i = 0; i < FACTS; i++) {
            facts[i] = factOf(match, i);
        }
        return asNumber(clause.grants(facts));
    }

    public int cost(int match, int v) {
        if (!games.has(match)) {
            return UNKNOWN;
        }
        return within(v, 0, 100) ? exchange(games.fee, match, v) : OUTSIDE;
    }

    public int looks(int purse, int what) {
        if (!within(purse, 0, 1000) || !within(what, 0, 1)) {
            return OUTSIDE;
        }
        purses.choose(purse, games);
        return what == 0 ? purses.bestSet : purses.bestSum;
    }

    public int told(int what) {
        switch (what) {
            case 0: return games.count;
            case 1: return bets.count;
            case 2: return rumour.count;
            case 3: return squad.acts;
            case 4: return tales.count;
            case 5: return clause.count;
            default: return OUTSIDE;
        }
    }

    // ---- what the calls share

    /** A fact of a match by its place in "ghxrn". */
    private int factOf(int match, int fact) {
        switch (fact) {
            case 0: games.seekTop(match); return games.topLean;
            case 1: return bets.countGrouped(match);
            case 2: return rumour.countExplained(match, games.hour[match], bets);
            case 3: links.build(games, bets); links.close(); return Integer.bitCount(links.rows[match]);
            default: return Integer.bitCount(squad.fewestFor(match));
        }
    }

    private static boolean within(int v, int least, int greatest) {
        return v >= least && v <= greatest;
    }

    private static boolean isHand(int hand) {
        return hand >= 0 && hand < HANDS;
    }

    private static boolean isPerson(int person) {
        return person >= 0 && person < PERSONS;
    }

    private static boolean isPlayer(int player) {
        return player >= 0 && player < PLAYERS;
    }

    private static boolean isHour(int hour) {
        return hour >= 0 && hour <= LAST_HOUR;
    }

    private static boolean isSpot(int quarter, int end) {
        return within(quarter, 0, QUARTERS - 1) && within(end, 0, ENDS - 1);
    }

    private static int asNumber(boolean so) {
        return so ? 1 : 0;
    }

    /** Puts a number whose place the caller has looked at, and answers what stood there. */
    private static int exchange(int[] row, int place, int v) {
        int was = row[place];
        row[place] = v;
        return was;
    }

    /** Goes on from links (rows of bits) to links of links, until each row has all that it reaches. */
    private static void closeOver(int[] rows, int size) {
        for (int through = 0; through < size; through++) {
            for (int i = 0; i < size; i++) {
                if ((rows[i] >> through & 1) == 1) {
                    rows[i] |= rows[through];
                }
            }
        }
    }

    /** Exact odds: how many of all cases, all of one weight. */
    private static final class Odds {
        private static final int EVEN = QUARTERS;
        private final long[] cases = new long[2 * QUARTERS + 1];
        private long upper;
        private long lower = 1;

        /** Cases by the lead that home wins (EVEN for none) in so many quarters. */
        void playQuarters(int quarters, int homeChance, int guestChance) {
            Arrays.fill(cases, 0L);
            cases[EVEN] = 1;
            lower = 1;
            for (int i = 0; i < quarters; i++) {
                playQuarter(homeChance, guestChance);
                lower *= 100;
            }
        }

        private void playQuarter(int homeChance, int guestChance) {
            int nobody = 100 - homeChance - guestChance;
            long below = 0;
            for (int i = 0; i < cases.length; i++) {
                long here = cases[i];
                long above = i + 1 < cases.length ? cases[i + 1] : 0;
                cases[i] = below * homeChance + here * nobody + above * guestChance;
                below = here;
            }
        }

        /** Sums the cases of an end, when home already leads by so many. */
        void sumEnd(int lead, int end) {
            upper = 0;
            for (int i = 0; i < cases.length; i++) {
                if (endByLead(lead + i - EVEN) == end) {
                    upper += cases[i];
                }
            }
        }

        /** Odds of so many late moves or more, each late with odds of w twentieths. */
        void countLate(int moves, int atLeast, int w) {
            Arrays.fill(cases, 0L);
            cases[0] = 1;
            lower = 1;
            for (int i = 0; i < moves; i++) {
                for (int late = cases.length - 1; late > 0; late--) {
                    cases[late] = cases[late] * (TWENTIETHS - w) + cases[late - 1] * w;
                }
                cases[0] *= TWENTIETHS - w;
                lower *= TWENTIETHS;
            }
            upper = 0;
            for (int late = atLeast; late >= 0 && late < cases.length; late++) {
                upper += cases[late];
            }
        }

        int thousandths() {
            return lower > 0 ? (int) (1000 * upper / lower) : 0;
        }

        long inLowestTerms(int part) {
            long common = lower;
            long rest = upper;
            // a thousand steps: Euclid needs some hundred at most for longs
            for (int i = 0; i < 1000 && rest > 0; i++) {
                long next = common % rest;
                common = rest;
                rest = next;
            }
            if (common <= 0) {
                return part;
            }
            return (part == 0 ? upper : lower) / common;
        }

        static int endByLead(int lead) {
            return lead > 0 ? 0 : lead == 0 ? 1 : 2;
        }
    }

    /** The matches, the skills of the sides, and the prices of the houses. */
    private static final class Games {
        private int count;
        private int base = 20;
        private final int[] skills = new int[SIDES];
        private final int[] home = new int[MATCHES];
        private final int[] guest = new int[MATCHES];
        private final int[] referee = new int[MATCHES];
        private final int[] hour = new int[MATCHES];
        private final int[] fee = new int[MATCHES];
        private final int[] goals = new int[MATCHES * QUARTERS];
        private final int[] prices = new int[MATCHES * SPOTS];
        private final Odds odds = new Odds();
        private int topLean;
        private int topSpot;

        Games() {
            Arrays.fill(skills, 50);
            Arrays.fill(fee, 10);
        }

        boolean has(int match) {
            return match >= 0 && match < count;
        }

        /** Adds a match where the caller has seen that there is room. */
        int add(int homeSide, int guestSide, int whistle) {
            home[count] = homeSide;
            guest[count] = guestSide;
            referee[count] = whistle;
            count++;
            return count - 1;
        }

        /** Goals of one (1 home, 2 guest) ahead of a quarter. */
        int goalsAhead(int match, int quarter, int who) {
            int made = 0;
            for (int i = 0; i < quarter; i++) {
                if (goals[match * QUARTERS + i] == who) {
                    made++;
                }
            }
            return made;
        }

        int leadAhead(int match, int quarter) {
            return goalsAhead(match, quarter, 1) - goalsAhead(match, quarter, 2);
        }

        int endOf(int match) {
            return Odds.endByLead(leadAhead(match, QUARTERS));
        }

        /** Hundredths with which a side makes a goal in a quarter. */
        private int chanceOf(int side, int other) {
            int chance = base + (skills[side] - skills[other]) / 4;
            return Math.max(1, Math.min(45, chance));
        }

        /** Sets the odds to those of an end, when so many quarters are done and home leads by so many. */
        void weigh(int match, int done, int lead, int end) {
            int homeChance = chanceOf(home[match], guest[match]);
            int guestChance = chanceOf(guest[match], home[match]);
            odds.playQuarters(QUARTERS - done, homeChance, guestChance);
            odds.sumEnd(lead, end);
        }

        int leanAt(int match, int quarter, int end) {
            int paid = prices[match * SPOTS + quarter * ENDS + end];
            if (paid <= 0) {
                return 0;
            }
            weigh(match, quarter, leadAhead(match, quarter), end);
            return 100000 / paid - odds.thousandths();
        }

        /** Sets the top lean of a match and its spot: 10 times the quarter, and the end; the first such. */
        void seekTop(int match) {
            topLean = leanAt(match, 0, 0);
            topSpot = 0;
            for (int i = 1; i < SPOTS; i++) {
                int lean = leanAt(match, i / ENDS, i % ENDS);
                if (lean > topLean) {
                    topLean = lean;
                    topSpot = 10 * (i / ENDS) + i % ENDS;
                }
            }
        }
    }

    /** The stakes, and which hands answer each other by them. */
    private static final class Bets {
        private static final int NOBODY = -1;
        private int count;
        private int near = 3;
        private int times = 2;
        private int ties = 2;
        private final int[] hand = new int[STAKES];
        private final int[] match = new int[STAKES];
        private final int[] end = new int[STAKES];
        private final int[] minute = new int[STAKES];
        private final int[] sum = new int[STAKES];
        /** The stake with which a stake is paired. */
        private final int[] partner = new int[STAKES];
        /** The stake from which the search came to a stake of the other hand. */
        private final int[] reachedFrom = new int[STAKES];
        private final int[] waiting = new int[STAKES];
        /** By hands: those that are one with it, as bits. */
        private final int[] groups = new int[HANDS];

        /** Adds a stake where the caller has seen that there is room. */
        int add(int ofHand, int onMatch, int onEnd, int atMinute, int ofSum) {
            hand[count] = ofHand;
            match[count] = onMatch;
            end[count] = onEnd;
            minute[count] = atMinute;
            sum[count] = ofSum;
            count++;
            return count - 1;
        }

        int gainOf(int ofHand, Games games) {
            int gained = 0;
            for (int i = 0; i < count; i++) {
                if (hand[i] == ofHand) {
                    gained += gainBy(i, games);
                }
            }
            return gained;
        }

        private int gainBy(int stake, Games games) {
            int spot = minute[stake] / 15 * ENDS + end[stake];
            int paid = games.prices[match[stake] * SPOTS + spot];
            if (paid == 0) {
                return 0;
            }
            int back = games.endOf(match[stake]) == end[stake] ? sum[stake] * paid / 100 : 0;
            return back - sum[stake];
        }

        int countOn(int onMatch) {
            int found = 0;
            for (int i = 0; i < count; i++) {
                if (match[i] == onMatch) {
                    found++;
                }
            }
            return found;
        }

        /** Hands with stakes on a match, as bits. */
        int handsOn(int onMatch) {
            int bits = 0;
            for (int i = 0; i < count; i++) {
                if (match[i] == onMatch) {
                    bits |= 1 << hand[i];
                }
            }
            return bits;
        }

        /** Whether two stakes can be a pair. */
        private boolean areAlike(int a, int b) {
            if (match[a] != match[b] || end[a] != end[b]) {
                return false;
            }
            int apart = minute[a] < minute[b] ? minute[b] - minute[a] : minute[a] - minute[b];
            int greater = sum[a] > sum[b] ? sum[a] : sum[b];
            int lesser = sum[a] > sum[b] ? sum[b] : sum[a];
            return apart <= near && greater <= times * lesser;
        }

        /** The most pairs of stakes of two hands, each stake in one at most. */
        int countPairs(int a, int b) {
            Arrays.fill(partner, NOBODY);
            int pairs = 0;
            for (int i = 0; i < count; i++) {
                if (hand[i] == a) {
                    int last = seekFree(i, b);
                    if (last != NOBODY) {
                        pairUpTo(last);
                        pairs++;
                    }
                }
            }
            return pairs;
        }

        /**
         * A free stake of the other hand that a stake can be paired with, if stakes that are paired already may
         * change their partners on the way: only so the pairs are the most.
         */
        private int seekFree(int start, int otherHand) {
            Arrays.fill(reachedFrom, NOBODY);
            int queued = 1;
            waiting[0] = start;
            for (int next = 0; next < queued; next++) {
                int from = waiting[next];
                for (int i = 0; i < count; i++) {
                    if (hand[i] != otherHand || reachedFrom[i] != NOBODY || !areAlike(from, i)) {
                        continue;
                    }
                    reachedFrom[i] = from;
                    if (partner[i] == NOBODY) {
                        return i;
                    }
                    if (queued < STAKES) {
                        waiting[queued] = partner[i];
                        queued++;
                    }
                }
            }
            return NOBODY;
        }

        /** Pairs along the way that the search came, back to where it began. */
        private void pairUpTo(int last) {
            int here = last;
            for (int i = 0; i < STAKES && here != NOBODY; i++) {
                int from = reachedFrom[here];
                if (from == NOBODY) {
                    return;
                }
                int before = partner[from];
                partner[from] = here;
                partner[here] = from;
                here = before;
            }
        }

        /** Fills the groups of hands that are one. */
        void groupHands() {
            for (int i = 0; i < HANDS; i++) {
                groups[i] = 1 << i;
            }
            for (int a = 0; a < HANDS; a++) {
                for (int b = a + 1; b < HANDS; b++) {
                    if (countPairs(a, b) >= ties) {
                        groups[a] |= 1 << b;
                        groups[b] |= 1 << a;
                    }
                }
            }
            closeOver(groups, HANDS);
        }

        /** Hands with stakes on a match that are one with another hand. */
        int countGrouped(int onMatch) {
            groupHands();
            int bits = handsOn(onMatch);
            int found = 0;
            for (int i = 0; i < HANDS; i++) {
                if ((bits >> i & 1) == 1 && groups[i] != 1 << i) {
                    found++;
                }
            }
            return found;
        }
    }

    /** Meetings, kept by hours, and what is heard at them. */
    private static final class Rumour {
        private int count;
        private final int[] one = new int[MEETINGS];
        private final int[] other = new int[MEETINGS];
        private final int[] hour = new int[MEETINGS];
        /** By persons: since when each knows what was spread last, or NONE. */
        private final int[] known = new int[PERSONS];
        private final int[] owner = new int[HANDS];
        /** Who knew the news first, or NONE for no news. */
        private int first = NONE;
        private int since;

        Rumour() {
            for (int i = 0; i < HANDS; i++) {
                owner[i] = i;
            }
        }

        /** Adds a meeting, behind those of like hour, where the caller has seen that there is room. */
        int add(int a, int b, int atHour) {
            int place = count;
            while (place > 0 && hour[place - 1] > atHour) {
                one[place] = one[place - 1];
                other[place] = other[place - 1];
                hour[place] = hour[place - 1];
                place--;
            }
            one[place] = a;
            other[place] = b;
            hour[place] = atHour;
            count++;
            return count;
        }

        void spread(int source, int fromHour) {
            Arrays.fill(known, NONE);
            known[source] = fromHour;
            for (int i = 0; i < count; i++) {
                if (hour[i] >= fromHour) {
                    tell(one[i], other[i], hour[i]);
                    tell(other[i], one[i], hour[i]);
                }
            }
        }

        private void tell(int who, int whom, int atHour) {
            if (known[who] != NONE && known[whom] == NONE) {
                known[whom] = atHour;
            }
        }

        /** Stakes on a match, that begins at an hour, whose person knew the news by then. */
        int countExplained(int match, int begins, Bets bets) {
            if (first == NONE) {
                return 0;
            }
            spread(first, since);
            int found = 0;
            for (int i = 0; i < bets.count; i++) {
                int heard = known[owner[bets.hand[i]]];
                int placed = begins + bets.minute[i] / 60;
                if (bets.match[i] == match && heard != NONE && heard <= placed) {
                    found++;
                }
            }
            return found;
        }
    }

    /** The players: their moves, their debts, and the acts that they can do. */
    private static final class Squad {
        private final int[] moves = new int[PLAYERS];
        private final int[] lateMoves = new int[PLAYERS];
        private final int[] debts = new int[PLAYERS];
        private int acts;
        private final int[] actMatch = new int[ACTS];
        private final int[] actPlayers = new int[ACTS];
        private final Odds odds = new Odds();

        void weighLate(int player, int w) {
            int all = moves[player];
            int late = lateMoves[player];
            if (all > LOOKED_AT) {
                late = late * LOOKED_AT / all;
                all = LOOKED_AT;
            }
            odds.countLate(all, late, w);
        }

        /** Adds an act where the caller has seen that there is room. */
        int addAct(int match, int players) {
            actMatch[acts] = match;
            actPlayers[acts] = players;
            acts++;
            return acts - 1;
        }

        private boolean canDoAll(int match, int players) {
            for (int i = 0; i < acts; i++) {
                if (actMatch[i] == match && (actPlayers[i] & players) == 0) {
                    return false;
                }
            }
            return true;
        }

        int priceOf(int players) {
            int price = 0;
            for (int i = 0; i < PLAYERS; i++) {
                if ((players >> i & 1) == 1) {
                    price += 1000 - debts[i];
                }
            }
            return price;
        }

        /** The fewest, then the cheapest, then the least as bits, by whom all acts can be done. */
        int fewestFor(int match) {
            int best = (1 << PLAYERS) - 1;
            int bestCount = PLAYERS;
            int bestPrice = priceOf(best);
            for (int set = 0; set < 1 << PLAYERS; set++) {
                int size = Integer.bitCount(set);
                if (size > bestCount || !canDoAll(match, set)) {
                    continue;
                }
                int price = priceOf(set);
                if (size < bestCount || price < bestPrice) {
                    best = set;
                    bestCount = size;
                    bestPrice = price;
                }
            }
            return best;
        }

        /** Players who alone can do some act. */
        int mustFor(int match) {
            int bits = 0;
            for (int i = 0; i < acts; i++) {
                if (actMatch[i] == match && Integer.bitCount(actPlayers[i]) == 1) {
                    bits |= actPlayers[i];
                }
            }
            return bits;
        }
    }

    /** Which matches are joined, as rows of bits; once they are closed, which are of one ring. */
    private static final class Links {
        private int size;
        private final int[] rows = new int[MATCHES];
        /** By matches: hands that are one with a hand that has a stake on it. */
        private final int[] reach = new int[MATCHES];

        void build(Games games, Bets bets) {
            bets.groupHands();
            size = games.count;
            for (int i = 0; i < size; i++) {
                rows[i] = 1 << i;
                reach[i] = reachOf(bets.handsOn(i), bets);
            }
            for (int a = 0; a < size; a++) {
                for (int b = a + 1; b < size; b++) {
                    if (games.referee[a] == games.referee[b] || (reach[a] & reach[b]) != 0) {
                        rows[a] |= 1 << b;
                        rows[b] |= 1 << a;
                    }
                }
            }
        }

        private static int reachOf(int hands, Bets bets) {
            int bits = 0;
            for (int i = 0; i < HANDS; i++) {
                if ((hands >> i & 1) == 1) {
                    bits |= bets.groups[i];
                }
            }
            return bits;
        }

        boolean areLinked(int a, int b) {
            return (rows[a] >> b & 1) == 1;
        }

        void cut(int a, int b) {
            rows[a] &= ~(1 << b);
            rows[b] &= ~(1 << a);
        }

        void close() {
            closeOver(rows, size);
        }
    }

    /** Stories, and the fewest of them that must be false. */
    private static final class Tales {
        private int count;
        private final int[] person = new int[STORIES];
        private final int[] place = new int[STORIES];
        private final int[] from = new int[STORIES];
        private final int[] to = new int[STORIES];
        /** By stories: those that can not be true with it, as bits. */
        private final int[] against = new int[STORIES];
        private int fewest;
        private int sure;

        /** Adds a story where the caller has seen that there is room. */
        int add(int who, int where, int start, int last) {
            person[count] = who;
            place[count] = where;
            from[count] = start;
            to[count] = last;
            against[count] = 0;
            for (int i = 0; i < count; i++) {
                if (clash(i, count)) {
                    against[i] |= 1 << count;
                    against[count] |= 1 << i;
                }
            }
            count++;
            return count - 1;
        }

        private boolean clash(int a, int b) {
            return person[a] == person[b] && place[a] != place[b] && from[a] <= to[b] && from[b] <= to[a];
        }

        /** Whether all stories outside a set can be true together. */
        private boolean restCanBe(int left) {
            for (int i = 0; i < count; i++) {
                if ((left >> i & 1) == 0 && (against[i] & ~left) != 0) {
                    return false;
                }
            }
            return true;
        }

        void sift() {
            int all = (1 << count) - 1;
            fewest = all;
            sure = all;
            int bestCount = count + 1;
            for (int set = 0; set <= all; set++) {
                int size = Integer.bitCount(set);
                if (size > bestCount || !restCanBe(set)) {
                    continue;
                }
                if (size < bestCount) {
                    bestCount = size;
                    fewest = set;
                    sure = set;
                }
                sure &= set;
            }
        }
    }

    /** Points, goals and places of the sides that have a match. */
    private static final class Ranks {
        private int down = 2;
        private int size;
        private final int[] taken = new int[SIDES];
        private final int[] points = new int[SIDES];
        private final int[] balance = new int[SIDES];
        private final boolean[] plays = new boolean[SIDES];

        void reckon(Games games) {
            for (int i = 0; i < SIDES; i++) {
                points[i] = -taken[i];
                balance[i] = 0;
                plays[i] = false;
            }
            for (int i = 0; i < games.count; i++) {
                int lead = games.leadAhead(i, QUARTERS);
                score(games.home[i], lead);
                score(games.guest[i], -lead);
            }
            size = 0;
            for (int i = 0; i < SIDES; i++) {
                size += asNumber(plays[i]);
            }
        }

        private void score(int side, int lead) {
            plays[side] = true;
            balance[side] += lead;
            points[side] += lead > 0 ? 3 : lead == 0 ? 1 : 0;
        }

        private boolean isAhead(int a, int b) {
            if (points[a] != points[b]) {
                return points[a] > points[b];
            }
            if (balance[a] != balance[b]) {
                return balance[a] > balance[b];
            }
            return a < b;
        }

        /** The place of a side that has a match, from 0 on. */
        private int placeOf(int side) {
            int place = 0;
            for (int i = 0; i < SIDES; i++) {
                if (plays[i] && isAhead(i, side)) {
                    place++;
                }
            }
            return place;
        }

        int sideAt(int place) {
            for (int i = 0; i < SIDES; i++) {
                if (plays[i] && placeOf(i) == place) {
                    return i;
                }
            }
            return NONE;
        }

        boolean isDown(int side) {
            return placeOf(side) >= size - down;
        }

        int takingToGoDown(int side) {
            int held = points[side];
            int needs = NONE;
            for (int more = 0; more <= MOST_TAKEN_MORE && needs == NONE; more++) {
                points[side] = held - more;
                if (isDown(side)) {
                    needs = more;
                }
            }
            points[side] = held;
            return needs;
        }
    }

    /** The text that is being said, and the one that is held as proof. */
    private static final class Clause {
        private static final int WANTS_FACT = 0, WANTS_RELATION = 1, WANTS_DIGIT = 2, ONE_DIGIT = 3,
                THREE_DIGITS = 5, BROKEN = -1;
        private int count;
        private final int[] signs = new int[SIGNS];
        private int heldCount;
        private final int[] held = new int[SIGNS];

        /** Adds a sign where the caller has seen that there is room. */
        int add(int sign) {
            signs[count] = sign;
            count++;
            return count;
        }

        int firstFault() {
            int state = WANTS_FACT;
            for (int i = 0; i < count; i++) {
                state = goOn(state, signs[i]);
                if (state == BROKEN) {
                    return i;
                }
            }
            return state >= ONE_DIGIT ? NONE : count;
        }

        private static int goOn(int state, int sign) {
            if (state == WANTS_FACT) {
                return factBy(sign) >= 0 ? WANTS_RELATION : BROKEN;
            }
            if (state == WANTS_RELATION) {
                return sign == '<' || sign == '>' ? WANTS_DIGIT : BROKEN;
            }
            if (isDigit(sign)) {
                return state < THREE_DIGITS ? state + 1 : BROKEN;
            }
            return state >= ONE_DIGIT && (sign == '&' || sign == '|') ? WANTS_FACT : BROKEN;
        }

        private static boolean isDigit(int sign) {
            return sign >= '0' && sign <= '9';
        }

        private static int factBy(int sign) {
            switch (sign) {
                case 'g': return 0;
                case 'h': return 1;
                case 'x': return 2;
                case 'r': return 3;
                case 'n': return 4;
                default: return -1;
            }
        }

        void hold() {
            for (int i = 0; i < count; i++) {
                held[i] = signs[i];
            }
            heldCount = count;
            count = 0;
        }

        /** Whether the facts fit the held text, which is without fault. */
        boolean grants(int[] facts) {
            boolean all = heldCount > 0;
            for (int i = 0; i < heldCount; i++) {
                int fact = factBy(held[i]);
                if (fact >= 0 && fact < facts.length) {
                    all = all && fits(facts[fact], i + 1);
                } else if (held[i] == '|') {
                    if (all) {
                        return true;
                    }
                    all = true;
                }
            }
            return all;
        }

        /** Whether a fact fits the relation that stands at a place, and the number behind it. */
        private boolean fits(int fact, int place) {
            if (place >= heldCount) {
                return false;
            }
            int number = 0;
            for (int i = place + 1; i < heldCount && isDigit(held[i]); i++) {
                number = number * 10 + held[i] - '0';
            }
            return held[place] == '<' ? fact < number : fact > number;
        }
    }

    /** Which matches to look at for a purse. */
    private static final class Purse {
        private final int[] leans = new int[MATCHES];
        private int bestSet;
        private int bestSum;

        private int sum;
        private int cost;

        void choose(int purse, Games games) {
            int worthy = seekWorthy(games);
            bestSet = 0;
            bestSum = 0;
            sum = 0;
            cost = 0;
            int bestCost = 0;
            int set = 0;
            for (int step = 1; step < 1 << Integer.bitCount(worthy); step++) {
                // counts on within the worthy bits, so sets come by their bits and of like ones the first is kept
                int next = (set - worthy) & worthy;
                change(set, next, games);
                set = next;
                if (cost <= purse && (sum > bestSum || sum == bestSum && cost < bestCost)) {
                    bestSet = set;
                    bestSum = sum;
                    bestCost = cost;
                }
            }
        }

        /** Sets the leans; matches with one above 0, as bits. */
        private int seekWorthy(Games games) {
            int worthy = 0;
            for (int i = 0; i < games.count; i++) {
                games.seekTop(i);
                leans[i] = games.topLean;
                if (leans[i] > 0) {
                    worthy |= 1 << i;
                }
            }
            return worthy;
        }

        /** Brings sum and cost from one set to another that has the same high bits. */
        private void change(int before, int after, Games games) {
            for (int i = 0; i < games.count && before >> i != after >> i; i++) {
                int step = (after >> i & 1) - (before >> i & 1);
                sum += step * leans[i];
                cost += step * games.fee[i];
            }
        }
    }
}
