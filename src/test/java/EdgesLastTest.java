/**
 * The sentences of the document's parts 5 to 8 that name a boundary, each on both sides of it, and the 512 calls on one
 * object. A label begins with the document's words; the answers were worked out by hand.
 */
public final class EdgesLastTest {
    private static final int NONE = -6, UNKNOWN = -1, OUTSIDE = -2, FULL = -4, NO = -5, REFUSED = -2000000000;
    private static final long LOST = -1000000000000000000L;
    private static final int EVERY_MATCH = 4095, EVERY_PLAYER = 1023, EVERY_STORY = 1023;

    private static int wrong = 0;
    private static int checked = 0;

    private static void due(String sentence, long got, long want) {
        checked++;
        if (got != want) {
            wrong++;
            System.out.println(sentence + " answered " + got + ", due is " + want);
        }
    }

    private static SoldMatches withMatches(int n) {
        SoldMatches x = new SoldMatches();
        for (int i = 0; i < n; i++) {
            x.match(i % 8, (i + 1) % 8, i % 6);
        }
        return x;
    }

    private static SoldMatches saying(SoldMatches x, String text) {
        for (int i = 0; i < text.length(); i++) {
            x.say(text.charAt(i));
        }
        return x;
    }

    private static String times(String text, int n) {
        return text.repeat(n);
    }

    // ---- 5 players

    private static void moves() {
        SoldMatches x = new SoldMatches();
        for (int player = 0; player < 10; player++) {
            due("STATE: no MOVES at first", x.late(player, 1, 0), LOST - 3);
        }
        due("MOVES 0 to 200: 201", x.moves(0, 201, 0), OUTSIDE);
        due("MOVES 0 to 200: -1", x.moves(0, -1, 0), OUTSIDE);
        due("MOVES 0 to 200: -1, late ones -1", x.moves(0, -1, -1), OUTSIDE);
        due("late ones, no more: 201 of 200", x.moves(0, 200, 201), OUTSIDE);
        due("late ones, no more: 1 of 0", x.moves(0, 0, 1), OUTSIDE);
        due("late ones: -1", x.moves(0, 5, -1), OUTSIDE);
        due("still no MOVES", x.late(0, 1, 0), LOST - 3);
        due("late ones, no more: 200 of 200", x.moves(0, 200, 200), 1);
        due("there are MOVES", x.late(0, 1, 0), 1);
        due("MOVES 0", x.moves(0, 0, 0), 1);
        due("STATE: no MOVES again", x.late(0, 1, 0), LOST - 3);
        due("STATE: no MOVES, the lower number too", x.late(0, 1, 1), LOST - 3);
        due("OUTSIDE ahead of STATE", x.late(0, 0, 0), LOST - 2);
        due("UNKNOWN ahead of OUTSIDE", x.late(10, 0, 2), LOST - 1);
        due("MOVES 1", x.moves(0, 1, 0), 1);
        due("one of them is enough", x.late(0, 1, 0), 1);
        due("the next PLAYER has none", x.late(1, 1, 0), LOST - 3);
    }

    private static void late(String sentence, int all, int lateOnes, int w, long upper, long lower) {
        SoldMatches x = new SoldMatches();
        x.moves(9, all, lateOnes);
        due(sentence + ", upper", x.late(9, w, 0), upper);
        due(sentence + ", lower", x.late(9, w, 1), lower);
    }

    private static void lateBeyondChance() {
        late("w twentieths, 1", 1, 1, 1, 1, 20);
        late("w twentieths, 19", 1, 1, 19, 19, 20);
        late("in lowest terms: 10 by 20", 1, 1, 10, 1, 2);
        late("as many late ones or more: none of one is certain", 1, 0, 19, 1, 1);
        late("as many late ones or more: one of two", 2, 1, 10, 3, 4);
        late("as many late ones or more: two of two", 2, 2, 10, 1, 4);
        late("of n MOVES, 12 at most: none of 12", 12, 0, 10, 1, 1);
        late("of n MOVES, 12 at most: one of 12", 12, 1, 10, 4095, 4096);
        late("of n MOVES, 12 at most: 11 of 11", 11, 11, 10, 1, 2048);
        late("of n MOVES, 12 at most: 11 of 12", 12, 11, 10, 13, 4096);
        late("of n MOVES, 12 at most: 12 of 12", 12, 12, 10, 1, 4096);
        late("of more: 13 of 13 are 12", 13, 13, 10, 1, 4096);
        late("of more, cut: 12 of 13 are 11 (144 by 13)", 13, 12, 10, 13, 4096);
        late("of more, cut: 1 of 13 is none (12 by 13)", 13, 1, 10, 1, 1);
        late("of more, cut: 2 of 13 are 1 (24 by 13)", 13, 2, 10, 4095, 4096);
        late("of more: 2 of 24 are 1", 24, 2, 10, 4095, 4096);
        late("of more, cut: 1 of 24 is none", 24, 1, 10, 1, 1);
        late("of more, cut: 199 of 200 are 11", 200, 199, 10, 13, 4096);
        late("of more: 200 of 200 are 12", 200, 200, 10, 1, 4096);
        late("the greatest lower number, 20 to the 12th", 12, 12, 1, 1, 4096000000000000L);
        late("the greatest upper number: 19 to the 12th", 12, 12, 19, 2213314919066161L, 4096000000000000L);
        SoldMatches x = new SoldMatches();
        x.moves(9, 12, 12);
        due("w 0", x.late(9, 0, 0), LOST - 2);
        due("w 20", x.late(9, 20, 0), LOST - 2);
        due("part 2", x.late(9, 19, 2), LOST - 2);
        due("part -1", x.late(9, 19, -1), LOST - 2);
    }

    private static void debts() {
        SoldMatches x = new SoldMatches();
        for (int player = 0; player < 10; player++) {
            due("DEBTS (0 at first)", x.debts(player, 1000), 0);
            due("DEBTS 1001", x.debts(player, 1001), OUTSIDE);
            due("DEBTS -1", x.debts(player, -1), OUTSIDE);
            due("DEBTS 1000", x.debts(player, 0), 1000);
        }
        due("PLAYER 10", x.debts(10, 0), UNKNOWN);
        due("PLAYER -1", x.debts(-1, 0), UNKNOWN);
    }

    private static void acts() {
        SoldMatches x = withMatches(12);
        due("ACTS: players 0", x.act(0, 0), OUTSIDE);
        due("ACTS: players 1024", x.act(0, 1024), OUTSIDE);
        due("ACTS: players 1025, its lower bits are good", x.act(0, 1025), OUTSIDE);
        due("ACTS: players -1", x.act(0, -1), OUTSIDE);
        due("ACTS: MATCH 12", x.act(12, 1), UNKNOWN);
        due("none is told", x.told(3), 0);
        for (int i = 0; i < 12; i++) {
            due("ACTS are numbered from 0 on, of all MATCHES", x.act(i, i == 0 ? 1 : i == 11 ? 512 : 1023), i);
        }
        due("ACTS, 12 at most", x.act(1, 2), FULL);
        due("ACTS, 12 at most, of another MATCH", x.act(11, 1), FULL);
        due("still 12", x.told(3), 12);
        due("the first one", x.needed(0, 0), 1);
        due("the last one", x.needed(11, 0), 512);
        due("the 13th is not there", x.needed(1, 0), 1);
    }

    private static void needed() {
        SoldMatches x = withMatches(2);
        x.act(1, 1);
        for (int what = 0; what < 3; what++) {
            due("Without ACTS 0 (those of another MATCH)", x.needed(0, what), 0);
        }
        x.act(0, 1 << 8 | 1 << 9);
        due("the least as bits", x.needed(0, 0), 1 << 8);
        due("a PLAYER's price is 1000 less DEBTS: of 0", x.needed(0, 1), 1000);
        due("MUST: none of two", x.needed(0, 2), 0);
        x.debts(9, 1);
        due("the cheapest by 1, ahead of the least as bits", x.needed(0, 0), 1 << 9);
        due("a price of 999", x.needed(0, 1), 999);
        x.debts(8, 1);
        due("as cheap: the least as bits", x.needed(0, 0), 1 << 8);
        x.debts(8, 1000);
        due("a price of 0", x.needed(0, 1), 0);
        x.debts(7, 1000);
        x.act(0, 1 << 7 | 1 << 9);
        due("the fewest, ahead of the cheapest: one at 999, not two at 0", x.needed(0, 0), 1 << 9);
        due("the fewest: its price", x.needed(0, 1), 999);
        x.act(0, 1 << 9);
        due("MUST: one who alone can", x.needed(0, 2), 1 << 9);
        x.act(0, 1);
        due("two ACTS, each by one", x.needed(0, 0), 1 << 9 | 1);
        due("MUST: both", x.needed(0, 2), 1 << 9 | 1);
        due("sum of prices: 999 and 1000", x.needed(0, 1), 1999);
        SoldMatches y = withMatches(1);
        for (int i = 0; i < 9; i++) {
            y.act(0, 1 << i);
        }
        due("nine are needed", y.needed(0, 0), EVERY_PLAYER - 512);
        y.act(0, 512);
        due("all ten are needed", y.needed(0, 0), EVERY_PLAYER);
        due("all ten MUST", y.needed(0, 2), EVERY_PLAYER);
        due("the greatest sum of prices", y.needed(0, 1), 10000);
        due("n of all ten", y.proof(0, 5), 10);
        SoldMatches z = withMatches(1);
        // two sets of two can do all, {0, 3} and {1, 2}: of one sum of prices until one debt is told
        z.act(0, 3);
        z.act(0, 5);
        z.act(0, 10);
        z.act(0, 12);
        due("of several the least as bits: 6, not 9", z.needed(0, 0), 6);
        z.debts(3, 1);
        due("the least sum of prices: 9", z.needed(0, 0), 9);
        z.debts(1, 1);
        due("one sum again", z.needed(0, 0), 6);
        z.debts(0, 1000);
        z.debts(1, 1000);
        due("the sum counts: 999 and 0 against 0 and 1000", z.needed(0, 0), 9);
    }

    // ---- 6 rings

    private static void joined() {
        SoldMatches x = withMatches(12);
        for (int i = 0; i < 12; i++) {
            due("one with itself", x.joined(i, i), 1);
            due("one REFEREE", x.joined(i, (i + 6) % 12), 1);
            due("another REFEREE", x.joined(i, (i + 1) % 12), 0);
        }
        x.stake(9, 0, 0, 0, 1);
        due("STAKES of one HAND: on one alone", x.joined(0, 11), 0);
        x.stake(9, 11, 0, 0, 1);
        due("STAKES of one HAND", x.joined(0, 11), 1);
        due("STAKES of one HAND, turned round", x.joined(11, 0), 1);
        SoldMatches z = withMatches(3);
        z.stake(0, 0, 0, 0, 1);
        z.stake(0, 2, 0, 0, 1);
        z.stake(1, 2, 0, 0, 1);
        z.stake(1, 1, 0, 0, 1);
        due("HANDS that are not ONE: one pair of two TIES", z.joined(0, 1), 0);
        z.set(3, 1);
        due("HANDS that are ONE", z.joined(0, 1), 1);
        due("MATCH 3 of three", z.joined(0, 3), UNKNOWN);
        due("MATCH -1", z.joined(-1, 0), UNKNOWN);
    }

    private static void rings() {
        SoldMatches x = withMatches(1);
        due("a RING of one", x.ring(0), 1);
        due("r of one", x.proof(0, 4), 1);
        SoldMatches y = withMatches(12);
        for (int i = 0; i < 5; i++) {
            y.stake(i, 5 - i, 0, 0, 1);
            y.stake(i, 4 - i, 0, 0, 1);
        }
        for (int i = 0; i < 12; i++) {
            due("JOINED, and so on: all twelve", y.ring(i), EVERY_MATCH);
        }
        due("r of twelve", y.proof(11, 4), 12);
        due("not JOINED, but of one RING", y.joined(6, 11), 0);
        SoldMatches z = withMatches(12);
        for (int i = 0; i < 12; i++) {
            due("six RINGS of two", z.ring(i), 1 << i | 1 << (i + 6) % 12);
        }
        due("MATCH 12", z.ring(12), UNKNOWN);
        due("MATCH -1", z.ring(-1), UNKNOWN);
    }

    private static void holds() {
        SoldMatches x = withMatches(8);
        due("HOLDS: two alone", x.holds(0, 6), 1);
        due("HOLDS: turned round", x.holds(6, 0), 1);
        due("HOLDS: one with itself", x.holds(0, 0), 0);
        due("NO: they are not JOINED", x.holds(0, 1), NO);
        x.stake(0, 6, 0, 0, 1);
        x.stake(0, 7, 0, 0, 1);
        due("NO: of one RING, but not JOINED", x.holds(0, 7), NO);
        due("HOLDS: a chain's link", x.holds(6, 7), 1);
        x.stake(1, 0, 0, 0, 1);
        x.stake(1, 7, 0, 0, 1);
        due("three round: none HOLDS", x.holds(6, 7), 0);
        due("three round: none HOLDS, turned round", x.holds(7, 0), 0);
        due("the link to a fourth HOLDS", x.holds(7, 1), 1);
        due("joined by two reasons is one link: REFEREE", x.holds(1, 7), 1);
        x.stake(2, 1, 0, 0, 1);
        x.stake(2, 7, 0, 0, 1);
        due("joined by two reasons is one link: HAND too", x.holds(1, 7), 1);
        due("MATCH 8", x.holds(0, 8), UNKNOWN);
        due("MATCH -1", x.holds(-1, -1), UNKNOWN);
        due("asking changes nothing", x.holds(6, 0), 0);
    }

    // ---- 7 stories

    private static void stories() {
        SoldMatches x = new SoldMatches();
        due("STORIES: place -1", x.story(0, -1, 0, 0), OUTSIDE);
        due("STORIES: place 10", x.story(0, 10, 0, 0), OUTSIDE);
        due("STORIES: from -1", x.story(0, 0, -1, 0), OUTSIDE);
        due("STORIES: to 1000", x.story(0, 0, 0, 1000), OUTSIDE);
        due("STORIES: from 1000 to 1000", x.story(0, 0, 1000, 1000), OUTSIDE);
        due("STORIES: to one ahead of from", x.story(0, 0, 5, 4), OUTSIDE);
        due("STORIES: PERSON 10", x.story(10, 0, 0, 0), UNKNOWN);
        due("none is told", x.told(4), 0);
        due("STORIES: the least", x.story(0, 0, 0, 0), 0);
        due("STORIES: the greatest", x.story(9, 9, 999, 999), 1);
        for (int i = 2; i < 10; i++) {
            due("STORIES are numbered from 0 on", x.story(5, i, 0, 999), i);
        }
        due("STORIES, 10 at most", x.story(0, 1, 0, 0), FULL);
        due("still 10", x.told(4), 10);
        due("the 11th is not there: 0 is true", x.untrue(0), EVERY_STORY - 3 - 512);
        due("how many: seven of eight", x.untrue(1), 7);
    }

    private static int clash(int from, int to, int otherFrom, int otherTo) {
        SoldMatches x = new SoldMatches();
        x.story(3, 0, from, to);
        x.story(3, 9, otherFrom, otherTo);
        return x.untrue(1);
    }

    private static void untrue() {
        SoldMatches x = new SoldMatches();
        for (int what = 0; what < 3; what++) {
            due("no STORIES: none FALSE", x.untrue(what), 0);
        }
        due("what 3", x.untrue(3), OUTSIDE);
        due("what -1", x.untrue(-1), OUTSIDE);
        due("both counted: an hour in common", clash(0, 5, 5, 9), 1);
        due("both counted: the next hour", clash(0, 5, 6, 9), 0);
        due("both counted: the later first", clash(5, 9, 0, 5), 1);
        due("both counted: the later first, the next hour", clash(6, 9, 0, 5), 0);
        due("one hour within", clash(0, 999, 500, 500), 1);
        due("the last hour", clash(999, 999, 999, 999), 1);
        due("the first hour", clash(0, 0, 0, 0), 1);
        due("the first and the last hour", clash(0, 0, 999, 999), 0);
        x.story(0, 0, 0, 9);
        x.story(0, 0, 5, 5);
        due("of unlike places: one place can be", x.untrue(1), 0);
        x.story(1, 1, 5, 5);
        due("of one PERSON: another can be", x.untrue(1), 0);
        x.story(0, 1, 9, 9);
        due("two that can not both be: the least as bits", x.untrue(0), 1);
        due("how many", x.untrue(1), 1);
        due("SURE ones: neither", x.untrue(2), 0);
        x.story(0, 2, 0, 0);
        due("two of three fall with one", x.untrue(0), 1);
        due("SURE ones: it is in every fewest set", x.untrue(2), 1);
        x.story(0, 2, 9, 9);
        due("the least as bits of two sets of two", x.untrue(0), 1 | 1 << 3);
        due("SURE ones: the one of them", x.untrue(2), 1);
        SoldMatches y = new SoldMatches();
        for (int i = 0; i < 9; i++) {
            y.story(3, 1, i, i);
        }
        y.story(3, 2, 0, 8);
        due("the last one against nine", y.untrue(0), 512);
        due("SURE: the last one", y.untrue(2), 512);
        due("how many", y.untrue(1), 1);
    }

    // ---- 8 tables, proof, looks

    private static void table() {
        SoldMatches x = new SoldMatches();
        due("TABLE without MATCHES: how many", x.table(-1), 0);
        due("TABLE without MATCHES: the first", x.table(0), NONE);
        due("UNKNOWN (also it has no MATCH)", x.ofSide(0, 0), REFUSED);
        x.match(7, 6, 0);
        due("SIDES that have a MATCH: two", x.table(-1), 2);
        due("then numbers", x.table(0), 6);
        due("then numbers", x.table(1), 7);
        due("behind the last", x.table(2), NONE);
        due("ahead of how many", x.table(-2), NONE);
        due("1 for none won", x.ofSide(7, 0), 1);
        due("1 for none won, the guest", x.ofSide(6, 0), 1);
        x.goal(0, 0, 1);
        due("3 for a win", x.ofSide(7, 0), 3);
        due("0 for the other", x.ofSide(6, 0), 0);
        due("by points, ahead of numbers", x.table(0), 7);
        due("goals made less got", x.ofSide(7, 1), 1);
        due("goals made less got, the other", x.ofSide(6, 1), -1);
        x.take(7, 2);
        due("less TAKEN, one point more than the other", x.table(0), 7);
        x.take(7, 3);
        due("as many points: by goals", x.table(0), 7);
        x.take(7, 4);
        due("one point less than the other", x.table(0), 6);
        due("less TAKEN", x.ofSide(7, 0), -1);
        due("SIDE 5 has no MATCH", x.ofSide(5, 0), REFUSED);
        SoldMatches y = withMatches(8);
        due("all eight", y.table(-1), 8);
        for (int i = 0; i < 8; i++) {
            due("the i-th of eight, by numbers", y.table(i), i);
        }
        due("behind the eighth", y.table(8), NONE);
    }

    private static void taken() {
        SoldMatches x = new SoldMatches();
        for (int side = 0; side < 8; side++) {
            due("TAKEN (0 at first)", x.take(side, 99), 0);
            due("TAKEN 100", x.take(side, 100), OUTSIDE);
            due("TAKEN -1", x.take(side, -1), OUTSIDE);
            due("TAKEN 99", x.take(side, 0), 99);
        }
        due("SIDE 8", x.take(8, 0), UNKNOWN);
        due("SIDE -1", x.take(-1, 0), UNKNOWN);
    }

    private static void down() {
        SoldMatches x = withMatches(7);
        for (int down = 1; down <= 4; down++) {
            x.set(4, down);
            for (int side = 0; side < 8; side++) {
                // sides 0 and 7 have one match, the others two: by points, then numbers, it goes 1 to 6, 0, 7
                int place = side == 0 ? 6 : side == 7 ? 7 : side - 1;
                due("DOWN: the last so many, " + down, x.ofSide(side, 2), place >= 8 - down ? 1 : 0);
            }
        }
        SoldMatches y = withMatches(1);
        due("DOWN (2 at first): both of two", y.ofSide(0, 2), 1);
        due("BY TAKING 0: it is DOWN", y.ofSide(0, 3), 0);
        y.set(4, 1);
        due("DOWN 1: the first of two is not", y.ofSide(0, 2), 0);
        due("DOWN 1: the last of two is", y.ofSide(1, 2), 1);
        due("as many points as the last, ahead by its number: 1", y.ofSide(0, 3), 1);
        y.set(4, 4);
        due("more DOWN than there are", y.ofSide(0, 2), 1);
    }

    private static void byTaking() {
        SoldMatches x = new SoldMatches();
        x.match(0, 1, 0);
        x.set(4, 1);
        x.goal(0, 0, 1);
        due("BY TAKING: 3 less 3 stays ahead by goals", x.ofSide(0, 3), 4);
        x.goal(0, 1, 2);
        x.goal(0, 0, 2);
        due("the other one: 3 less 3 stays ahead by goals", x.ofSide(1, 3), 4);
        due("0: it is DOWN", x.ofSide(0, 3), 0);
        x.take(0, 99);
        due("behind 99 below", x.ofSide(1, 3), 103);
        x.take(1, 99);
        due("more than is: 99 are taken already", x.ofSide(1, 3), 4);
        due("asking changes nothing", x.ofSide(1, 0), -96);
        SoldMatches y = new SoldMatches();
        for (int i = 0; i < 11; i++) {
            y.match(7, 0, 0);
            y.goal(i, 0, 1);
        }
        y.match(7, 0, 0);
        y.goal(11, 3, 1);
        y.set(4, 1);
        due("36 points", y.ofSide(7, 0), 36);
        due("goals of twelve", y.ofSide(7, 1), 12);
        y.take(0, 99);
        due("the greatest number there can be", y.ofSide(7, 3), 136);
        SoldMatches z = new SoldMatches();
        z.match(3, 1, 0);
        z.goal(0, 0, 1);
        z.match(1, 3, 0);
        z.goal(1, 0, 1);
        z.match(0, 2, 0);
        z.set(4, 1);
        due("as many points and goals as the last: DOWN by its number", z.ofSide(3, 3), 2);
        due("as many points and goals as the last: ahead by its number", z.ofSide(1, 3), 3);
        due("as many as the last already, ahead by its number", z.ofSide(0, 3), 1);
        z.take(3, 1);
        due("more than is", z.ofSide(3, 3), 1);
        z.take(3, 2);
        due("0: it is DOWN by its number", z.ofSide(3, 3), 0);
    }

    private static void signs() {
        SoldMatches x = new SoldMatches();
        due("codes 33 to 126: 32", x.say(32), OUTSIDE);
        due("codes 33 to 126: 127", x.say(127), OUTSIDE);
        due("codes 33 to 126: 33", x.say(33), 1);
        due("codes 33 to 126: 126", x.say(126), 2);
        due("how many there were", x.wipe(), 2);
        due("none there were", x.wipe(), 0);
        for (int i = 1; i <= 40; i++) {
            due("a text of up to 40 signs", x.say('g'), i);
        }
        due("a text of up to 40 signs: 41", x.say('g'), FULL);
        due("still 40", x.told(5), 40);
        due("all 40 go", x.wipe(), 40);
        due("from 1 on", x.say('g'), 1);
        due("signs of a wiped text are gone", x.fault(), 1);
    }

    private static void fault(String text, int want) {
        SoldMatches x = saying(withMatches(1), text);
        due("THE FAULT of " + text, x.fault(), want);
        due("NO: there is a FAULT, of " + text, x.rule(), want == NONE ? 1 : NO);
        due("the signs, of " + text, x.told(5), want == NONE ? 0 : text.length());
    }

    private static void faults() {
        fault("", 0);
        for (int sign = 33; sign <= 126; sign++) {
            boolean fact = "ghxrn".indexOf(sign) >= 0;
            boolean digit = sign >= '0' && sign <= '9';
            boolean joins = sign == '&' || sign == '|';
            char c = (char) sign;
            fault("" + c, fact ? 1 : 0);
            fault("n" + c, c == '<' || c == '>' ? 2 : 1);
            fault("h>" + c, digit ? NONE : 2);
            fault("h>9" + c, digit ? NONE : joins ? 4 : 3);
            fault("h>90" + c, digit ? NONE : joins ? 5 : 4);
            fault("h>900" + c, joins ? 6 : 5);
            fault("h>9&" + c, fact ? 5 : 4);
            fault("h>9|" + c, fact ? 5 : 4);
            fault("h>9&x" + c, c == '<' || c == '>' ? 6 : 5);
            fault("h>9&x<" + c, digit ? NONE : 6);
        }
        fault("h>q&", 2);
        fault("q>1&g>1234", 0);
        fault(times("g<1|", 9) + "g<12", NONE);
        fault(times("g<1|", 9) + "g<1", NONE);
        fault(times("g<1|", 10), 40);
        fault(times("g<12", 1) + times("&r>99", 7) + "|", 40);
        fault(times("n>9&", 9) + "n>1>", 39);
        fault(times("n>9&", 9) + "n>12", NONE);
        fault(times("q", 40), 0);
    }

    private static int proof(SoldMatches x, String text) {
        x.wipe();
        due("a text that can be PROOF: " + text, saying(x, text).rule(), 1);
        return x.proof(0, 0);
    }

    private static void proofs() {
        SoldMatches x = withMatches(1);
        due("None at first: nothing is PROOF", x.proof(0, 0), 0);
        due("a FAULT of the empty text", x.rule(), NO);
        due("still none", x.proof(0, 0), 0);
        saying(x, "r>0");
        due("a text that is not yet the rule", x.proof(0, 0), 0);
        due("PROOF is the text", x.rule(), 1);
        due("the signs are empty then", x.told(5), 0);
        due("PROOF", x.proof(0, 0), 1);
        due("no second time by the empty signs", x.rule(), NO);
        due("PROOF is kept", x.proof(0, 0), 1);
        due("r 1, more than 0", proof(x, "r>0"), 1);
        due("r 1, more than 1", proof(x, "r>1"), 0);
        due("r 1, less than 1", proof(x, "r<1"), 0);
        due("r 1, less than 2", proof(x, "r<2"), 1);
        due("n 0 without ACTS, less than 0", proof(x, "n<0"), 0);
        due("n 0 without ACTS, less than 1", proof(x, "n<1"), 1);
        due("three digits", proof(x, "r>000"), 1);
        due("three digits, the greatest", proof(x, "g<999"), 1);
        due("three digits, the last counts", proof(x, "r<001"), 0);
        due("three digits, the last counts", proof(x, "r<002"), 1);
        due("all TESTS of a BOTH", proof(x, "r>0&n<1&h<1&x<1&g<1"), 1);
        due("all TESTS of a BOTH, the last is not", proof(x, "r>0&n<1&h<1&x<1&g<0"), 0);
        due("one BOTH of many, the last", proof(x, "r>1|n>0|h>0|x>0|g<1"), 1);
        due("one BOTH of many, the first", proof(x, "r>0|n>0|h>0|x>0|g<0"), 1);
        due("one BOTH of many, none", proof(x, "r>1|n>0|h>0|x>0|g<0"), 0);
        due("& binds more than |", proof(x, "r>0|r>1&r>1"), 1);
        due("& binds more than |, first", proof(x, "r>1&r>1|r>0"), 1);
        due("40 signs, the last TEST", proof(x, times("r>1|", 9) + "r<02"), 1);
        due("40 signs, the last TEST is not", proof(x, times("r>1|", 9) + "r<01"), 0);
        due("a shorter text behind a longer one", proof(x, "r>1"), 0);
        for (int i = 0; i < 18; i++) {
            x.price(0, i / 3, i % 3, 10000);
        }
        due("g below 0", x.proof(0, 1), -190);
        due("g below 0 is less than 0", proof(x, "g<0"), 1);
        due("g below 0 is not more than 0", proof(x, "g>0"), 0);
    }

    private static void facts() {
        SoldMatches x = withMatches(2);
        x.set(3, 1);
        x.stake(0, 0, 0, 0, 1);
        due("h: a HAND that is ONE with none", x.proof(0, 2), 0);
        x.stake(1, 0, 0, 0, 1);
        due("h: two that are ONE", x.proof(0, 2), 2);
        due("h: no STAKES on it", x.proof(1, 2), 0);
        x.stake(1, 1, 0, 0, 1);
        due("h: one of the two has STAKES on it", x.proof(1, 2), 1);
        x.stake(1, 1, 0, 0, 1);
        due("h: HANDS, not STAKES", x.proof(1, 2), 1);
        due("x: no NEWS", x.proof(1, 3), 0);
        x.news(1, 0);
        due("x: STAKES, not HANDS", x.proof(1, 3), 2);
        due("r: joined by the HAND", x.proof(1, 4), 2);
        due("n: 0 without ACTS", x.proof(1, 5), 0);
        x.act(1, EVERY_PLAYER);
        due("n: one of all", x.proof(1, 5), 1);
        due("n: of the other MATCH", x.proof(0, 5), 0);
        due("what 6", x.proof(0, 6), REFUSED);
        due("what -1", x.proof(0, -1), REFUSED);
    }

    /** Facts of unlike values, each tested by texts against the number itself, one less and one more. */
    private static void factsInTexts() {
        SoldMatches x = withMatches(7);
        x.set(3, 1);
        x.price(0, 5, 0, 300);
        x.stake(3, 0, 0, 0, 1);
        x.stake(4, 0, 0, 0, 1);
        x.stake(5, 0, 0, 89, 1);
        x.stake(5, 1, 0, 0, 1);
        x.stake(5, 2, 0, 0, 1);
        x.news(5, 0);
        for (int i = 0; i < 5; i++) {
            x.act(0, 1 << i);
        }
        int[] values = {133, 2, 1, 4, 5};
        for (int i = 0; i < 5; i++) {
            String fact = "ghxrn".substring(i, i + 1);
            due("fact " + fact, x.proof(0, i + 1), values[i]);
            due(fact + " is more than one less", proof(x, fact + ">" + (values[i] - 1)), 1);
            due(fact + " is not more than itself", proof(x, fact + ">" + values[i]), 0);
            due(fact + " is not less than itself", proof(x, fact + "<" + values[i]), 0);
            due(fact + " is less than one more", proof(x, fact + "<" + (values[i] + 1)), 1);
        }
    }

    private static void looks() {
        SoldMatches x = withMatches(12);
        due("no LEANS above 0", x.looks(1000, 0), 0);
        due("no LEANS above 0, their sum", x.looks(1000, 1), 0);
        due("costs (10 at first)", x.cost(11, 100), 10);
        due("costs 101", x.cost(11, 101), OUTSIDE);
        due("costs -1", x.cost(11, -1), OUTSIDE);
        due("costs 0 to 100", x.cost(11, 0), 100);
        due("costs 0", x.cost(11, 10), 0);
        x.price(11, 5, 0, 500);
        due("a LEAN of 0: 200 less 200", x.looks(1000, 0), 0);
        x.price(11, 5, 0, 497);
        due("a LEAN of 1: 201 less 200", x.looks(1000, 0), 1 << 11);
        due("its sum", x.looks(1000, 1), 1);
        due("a purse one too small", x.looks(9, 0), 0);
        due("a purse just enough", x.looks(10, 0), 1 << 11);
        x.cost(11, 0);
        due("a purse of 0, a cost of 0", x.looks(0, 0), 1 << 11);
        x.cost(11, 1);
        due("a purse of 0, a cost of 1", x.looks(0, 0), 0);
        x.cost(11, 10);
        x.price(0, 5, 0, 497);
        due("as great, as cheap: the least as bits", x.looks(10, 0), 1);
        x.cost(0, 11);
        due("as great: the cheapest by 1", x.looks(11, 0), 1 << 11);
        x.price(0, 5, 0, 495);
        due("greater by 1, ahead of the cheapest", x.looks(11, 0), 1);
        due("both, a purse one too small", x.looks(20, 0), 1);
        due("both", x.looks(21, 0), 1 | 1 << 11);
        due("sum of both", x.looks(21, 1), 3);
        due("purse 1000", x.looks(1000, 1), 3);
        due("purse 1001", x.looks(1001, 0), OUTSIDE);
        due("purse -1", x.looks(-1, 0), OUTSIDE);
        SoldMatches y = withMatches(12);
        for (int i = 0; i < 12; i++) {
            y.price(i, 5, 1, 100);
        }
        due("all twelve", y.looks(120, 0), EVERY_MATCH);
        due("all twelve, their sum", y.looks(120, 1), 4800);
        due("one less: the least as bits", y.looks(119, 0), EVERY_MATCH >> 1);
        for (int i = 0; i < 12; i++) {
            y.cost(i, 100);
        }
        due("the greatest purse and costs: ten", y.looks(1000, 0), 1023);
        due("one less: nine", y.looks(999, 0), 511);
    }

    private static void told() {
        SoldMatches x = new SoldMatches();
        for (int what = 0; what <= 5; what++) {
            due("nothing told at first", x.told(what), 0);
        }
        due("what 6", x.told(6), OUTSIDE);
        due("what -1", x.told(-1), OUTSIDE);
    }

    // ---- 512 calls

    private static void manyCalls() {
        SoldMatches x = new SoldMatches();
        for (int i = 0; i < 511; i++) {
            due("each of 511 calls", x.skill(3, i % 100), i == 0 ? 50 : (i - 1) % 100);
        }
        due("the 512th call", x.skill(3, 0), 10);
        SoldMatches y = withMatches(12);
        for (int i = 0; i < 40; i++) {
            y.stake(i % 10, i % 12, 0, i, 100);
        }
        for (int i = 0; i < 30; i++) {
            y.meet(i % 10, (i + 1) % 10, i);
        }
        saying(y, times("h>9&r>99|", 4) + "r>1");
        y.rule();
        int calls = 12 + 40 + 30 + 39 + 1;
        for (; calls < 510; calls++) {
            due("PROOF within 512 calls", y.proof(calls % 12, 0), 1);
        }
        due("the 511th call", y.looks(1000, 1), 0);
        due("the 512th call: every other MATCH by HANDS and REFEREES", y.ring(0), EVERY_MATCH / 3);
        SoldMatches z = withMatches(1);
        for (int i = 0; i < 12; i++) {
            saying(z, times("g", 40));
            due("40 signs each time", z.wipe(), 40);
        }
        due("calls after 493", z.told(5), 0);
    }

    public static void main(String[] args) {
        moves();
        lateBeyondChance();
        debts();
        acts();
        needed();
        joined();
        rings();
        holds();
        stories();
        untrue();
        table();
        taken();
        down();
        byTaking();
        signs();
        faults();
        proofs();
        facts();
        factsInTexts();
        looks();
        told();
        manyCalls();
        System.out.println(checked + " answers, " + wrong + " are not as due");
        if (wrong != 0) {
            System.exit(1);
        }
    }
}
