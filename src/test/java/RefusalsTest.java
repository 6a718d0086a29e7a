import java.util.ArrayList;
import java.util.List;

/**
 * The refusals of every call. Each argument is tried at both ends of its range, where it is taken, and just outside, far
 * outside and where bits would wrap around, where it is refused; wrong ones are tried together, since the first refusal
 * that fits is due; and after refused calls all that can be asked is asked: they change nothing.
 */
public final class RefusalsTest {
    private static final int UNKNOWN = -1, OUTSIDE = -2, FULL = -4, NO = -5, REFUSED = -2000000000;
    private static final long LOST = -1000000000000000000L;
    private static final int MIN = Integer.MIN_VALUE, MAX = Integer.MAX_VALUE;
    /** The document promises nothing of an object after so many calls. */
    private static final int MOST_CALLS = 512;
    private static final int REFUSED_AT_ONCE = 40;

    private static int wrong = 0;
    private static int checked = 0;

    private static void due(String what, long got, long want) {
        checked++;
        if (got != want) {
            wrong++;
            if (wrong < 60) {
                System.out.println(what + " answered " + got + ", due is " + want);
            }
        }
    }

    /** An object, and how many calls were made on it. */
    private static final class Counted {
        private final SoldMatches object = new SoldMatches();
        private int calls = 0;

        SoldMatches x() {
            calls++;
            return object;
        }
    }

    private interface Answer {
        long of(SoldMatches x, int[] v);
    }

    /** An argument: its range, a good value, and whether it names something (UNKNOWN is due then, else OUTSIDE). */
    private record Arg(int least, int most, int good, boolean names) {
        boolean isGap() {
            return most < least;
        }

        /** Just outside, far outside, and where the lower bits are those of the good one. */
        List<Integer> wrongOnes() {
            List<Integer> all = new ArrayList<>(List.of(least - 1, most + 1, MIN, MAX, MIN + 1, MAX - 1));
            for (int bit = 0; bit < 32; bit++) {
                all.add(good + (1 << bit));
                all.add(good - (1 << bit));
            }
            all.removeIf(v -> least <= v && v <= most);
            return all;
        }
    }

    private record Call(String name, Answer answer, long unknown, long outside, boolean fills, Arg... args) {
        int[] good() {
            int[] v = new int[args.length];
            for (int i = 0; i < v.length; i++) {
                v[i] = args[i].good;
            }
            return v;
        }

        String told(int[] v) {
            StringBuilder text = new StringBuilder(name).append('(');
            for (int i = 0; i < v.length; i++) {
                text.append(i == 0 ? "" : ", ").append(v[i]);
            }
            return text.append(')').toString();
        }

        long on(Counted c, int[] v) {
            return answer.of(c.x(), v);
        }
    }

    private static Arg name(int most, int good) {
        return new Arg(0, most, good, true);
    }

    private static Arg number(int least, int most) {
        return new Arg(least, most, most, false);
    }

    private static Call call(String name, Answer answer, Arg... args) {
        return new Call(name, answer, UNKNOWN, OUTSIDE, false, args);
    }

    private static Call filling(String name, Answer answer, Arg... args) {
        return new Call(name, answer, UNKNOWN, OUTSIDE, true, args);
    }

    private static Call lost(String name, Answer answer, Arg... args) {
        return new Call(name, answer, LOST - 1, LOST - 2, false, args);
    }

    private static Call refused(String name, Answer answer, Arg... args) {
        return new Call(name, answer, REFUSED, REFUSED, false, args);
    }

    /** Every call that refuses arguments, with the ranges that the document tells, when there are so many matches. */
    private static List<Call> calls(int matches) {
        Arg match = name(matches - 1, matches - 1);
        Arg side = name(7, 5);
        Arg ten = name(9, 9);
        Arg hour = number(0, 999);
        Arg quarter = number(0, 5);
        Arg end = number(0, 2);
        Arg two = number(0, 1);
        List<Call> all = new ArrayList<>(List.of(
            call("skill", (x, v) -> x.skill(v[0], v[1]), side, number(0, 99)),
            filling("match", (x, v) -> x.match(v[0], v[1], v[2]), name(7, 4), name(7, 3), quarter),
            call("goal", (x, v) -> x.goal(v[0], v[1], v[2]), match, quarter, end),
            call("ofMatch", (x, v) -> x.ofMatch(v[0], v[1]), match, number(0, 7)),
            lost("likely", (x, v) -> x.likely(v[0], v[1], v[2], v[3], v[4], v[5]),
                match, number(0, 6), number(0, 6), number(0, 6), end, two),
            call("set", (x, v) -> x.set(v[0], 2), number(0, 4)),
            call("set 0", (x, v) -> x.set(0, v[0]), number(0, 40)),
            call("set 1", (x, v) -> x.set(1, v[0]), number(0, 89)),
            call("set 2", (x, v) -> x.set(2, v[0]), number(1, 10)),
            call("set 3", (x, v) -> x.set(3, v[0]), number(1, 20)),
            call("set 4", (x, v) -> x.set(4, v[0]), number(1, 4)),
            call("price", (x, v) -> x.price(v[0], v[1], v[2], v[3]), match, quarter, end, number(100, 10000)),
            refused("lean", (x, v) -> x.lean(v[0], v[1], v[2]), match, quarter, end),
            refused("greatest", (x, v) -> x.greatest(v[0], v[1]), match, two),
            filling("stake", (x, v) -> x.stake(v[0], v[1], v[2], v[3], v[4]),
                ten, match, end, number(0, 89), number(1, 10000)),
            refused("gain", (x, v) -> x.gain(v[0]), ten),
            call("answer", (x, v) -> x.answer(v[0], v[1], v[2]), name(9, 4), name(9, 3), two),
            call("one", (x, v) -> x.one(v[0]), ten)));
        all.addAll(List.of(
            filling("meet", (x, v) -> x.meet(v[0], v[1], v[2]), name(9, 4), name(9, 3), hour),
            call("knew", (x, v) -> x.knew(v[0], v[1], v[2]), ten, hour, ten),
            call("own", (x, v) -> x.own(v[0], v[1]), ten, ten),
            call("begin", (x, v) -> x.begin(v[0], v[1]), match, hour),
            call("news", (x, v) -> x.news(v[0], v[1]), ten, hour),
            call("explained", (x, v) -> x.explained(v[0], v[1]), match, two),
            call("moves", (x, v) -> x.moves(v[0], v[1], v[2]), ten, number(0, 200), new Arg(0, 200, 0, false)),
            lost("late", (x, v) -> x.late(v[0], v[1], v[2]), ten, number(1, 19), two),
            call("debts", (x, v) -> x.debts(v[0], v[1]), ten, number(0, 1000)),
            filling("act", (x, v) -> x.act(v[0], v[1]), match, number(1, 1023)),
            call("needed", (x, v) -> x.needed(v[0], v[1]), match, end),
            call("joined", (x, v) -> x.joined(v[0], v[1]), match, match),
            call("ring", (x, v) -> x.ring(v[0]), match),
            call("holds", (x, v) -> x.holds(v[0], v[1]), match, match)));
        all.addAll(List.of(
            filling("story", (x, v) -> x.story(v[0], v[1], v[2], v[3]),
                ten, number(0, 9), new Arg(0, 999, 0, false), hour),
            call("untrue", (x, v) -> x.untrue(v[0]), end),
            call("take", (x, v) -> x.take(v[0], v[1]), side, number(0, 99)),
            refused("ofSide", (x, v) -> x.ofSide(v[0], v[1]), side, number(0, 3)),
            filling("say", (x, v) -> x.say(v[0]), number(33, 126)),
            refused("proof", (x, v) -> x.proof(v[0], v[1]), match, quarter),
            call("cost", (x, v) -> x.cost(v[0], v[1]), match, number(0, 100)),
            call("looks", (x, v) -> x.looks(v[0], v[1]), number(0, 1000), two),
            call("told", (x, v) -> x.told(v[0]), quarter)));
        return all;
    }

    /** An object with something of everything, no row of it empty; every side has a match if there are four. */
    private static Counted stage(int matches) {
        Counted c = new Counted();
        for (int i = 0; i < matches; i++) {
            c.x().match(2 * i % 8, (2 * i + 1 + i / 4 * 2) % 8, i % 5);
            c.x().price(i, i % 6, i % 3, 150 + 10 * i);
            c.x().goal(i, (i + 1) % 6, 1 + i % 2);
        }
        for (int i = 0; i < 10; i++) {
            c.x().moves(i, i + 4, i / 2 + 1);
        }
        c.x().skill(0, 70);
        c.x().skill(7, 31);
        c.x().take(6, 3);
        c.x().own(3, 8);
        c.x().debts(2, 400);
        c.x().set(0, 23);
        c.x().set(3, 1);
        c.x().meet(0, 1, 4);
        c.x().meet(1, 8, 6);
        c.x().news(0, 2);
        c.x().story(0, 1, 5, 9);
        c.x().story(0, 2, 9, 9);
        if (matches > 0) {
            c.x().begin(0, 6);
            c.x().cost(0, 17);
            c.x().stake(3, 0, 1, 10, 100);
            c.x().stake(1, matches - 1, 0, 80, 70);
            c.x().stake(9, 0, 1, 12, 130);
            c.x().act(0, 6);
            c.x().act(matches - 1, 512);
        }
        sayAll(c, "g>9|x>0");
        c.x().rule();
        sayAll(c, "h<2&");
        return c;
    }

    /** The same, but that nothing can be added to it. */
    private static Counted fullStage() {
        Counted c = stage(12);
        for (int i = 3; i < 40; i++) {
            c.x().stake(i % 7, i % 12, i % 3, 2 * i, 20 * i);
        }
        for (int i = 2; i < 30; i++) {
            c.x().meet(i % 10, (i + 3) % 10, 29 - i);
        }
        for (int i = 2; i < 12; i++) {
            c.x().act(i % 3, 1 << i % 10 | 1 << (3 * i + 1) % 10);
        }
        for (int i = 2; i < 10; i++) {
            c.x().story(i % 2, i % 4, 5 + i, 12 + i);
        }
        sayAll(c, "g>1|r>2&n>3|g>1|h>2&x>3|n>3|g>1|r>2&");
        return c;
    }

    private static void sayAll(Counted c, String text) {
        for (int i = 0; i < text.length(); i++) {
            c.x().say(text.charAt(i));
        }
    }

    /** All that can be asked, and, by calls that tell what was, all that can be put. */
    private static List<Long> probe(Counted c, int matches) {
        List<Long> got = new ArrayList<>();
        for (int what = 0; what <= 5; what++) {
            got.add((long) c.x().told(what));
        }
        got.add((long) c.x().fault());
        for (int i = 0; i < 10; i++) {
            got.add((long) c.x().gain(i));
            got.add((long) c.x().one(i));
            got.add((long) c.x().knew(0, 2, i));
            got.add(c.x().late(i, 3, 0));
            got.add((long) c.x().table(i - 1));
        }
        for (int what = 0; what <= 2; what++) {
            got.add((long) c.x().untrue(what));
        }
        got.add((long) c.x().looks(20, 0));
        got.add((long) c.x().looks(1000, 1));
        for (int side = 0; side < 8; side++) {
            got.add((long) c.x().ofSide(side, 0));
            got.add((long) c.x().ofSide(side, 3));
        }
        for (int m = 0; m < matches; m += matches > 4 ? matches - 1 : 1) {
            probeMatch(c, m, got);
        }
        probePuts(c, got);
        return got;
    }

    private static void probeMatch(Counted c, int m, List<Long> got) {
        for (int what = 0; what <= 7; what++) {
            got.add((long) c.x().ofMatch(m, what));
        }
        for (int what = 0; what <= 5; what++) {
            got.add((long) c.x().proof(m, what));
        }
        for (int what = 0; what <= 2; what++) {
            got.add((long) c.x().needed(m, what));
        }
        got.add((long) c.x().explained(m, 1));
        got.add((long) c.x().greatest(m, 1));
        got.add((long) c.x().ring(m));
        for (int q = 0; q < 6; q++) {
            got.add((long) c.x().goal(m, q, 0));
            got.add((long) c.x().price(m, q, m % 3, 0));
        }
    }

    private static void probePuts(Counted c, List<Long> got) {
        for (int i = 0; i < 8; i++) {
            got.add((long) c.x().skill(i, 50));
            got.add((long) c.x().take(i, 0));
        }
        for (int i = 0; i < 10; i++) {
            got.add((long) c.x().own(i, i));
            got.add((long) c.x().debts(i, 0));
        }
        for (int which = 0; which < 5; which++) {
            got.add((long) c.x().set(which, 2));
        }
        got.add((long) c.x().wipe());
    }

    private static void checkTaken(Counted c, Call call, int[] v, boolean full) {
        long got = call.on(c, v);
        String what = call.told(v) + ", within its ranges";
        if (call.fills) {
            due(what + (full ? ", full" : ""), full ? got == FULL ? 1 : 0 : got >= 0 ? 1 : 0, 1);
        } else {
            due(what, got == call.unknown || got == call.outside ? 0 : 1, 1);
        }
    }

    /** Each argument at both ends of its range is taken, the others being good. */
    private static void checkEnds(Call call, int matches, boolean full) {
        for (int i = 0; i < call.args.length; i++) {
            for (int value : new int[] {call.args[i].least, call.args[i].most}) {
                int[] v = call.good();
                v[i] = value;
                checkTaken(full ? fullStage() : stage(matches), call, v, full);
            }
        }
    }

    /** The arguments of calls that are refused: each set of arguments wrong together, each by some of its wrong values. */
    private static List<int[]> wrongCalls(Call call) {
        List<int[]> all = new ArrayList<>();
        for (int set = 1; set < 1 << call.args.length; set++) {
            boolean single = Integer.bitCount(set) == 1;
            for (int turn = 0; turn < (single ? 100 : 3); turn++) {
                int[] v = call.good();
                boolean more = false;
                for (int i = 0; i < v.length; i++) {
                    if ((set >> i & 1) == 1) {
                        List<Integer> ones = call.args[i].wrongOnes();
                        more |= turn < ones.size();
                        v[i] = ones.get((turn * (single ? 1 : 2 * i + 1)) % ones.size());
                    }
                }
                if (more) {
                    all.add(v);
                }
            }
        }
        return all;
    }

    private static long refusalOf(Call call, int[] v) {
        for (int i = 0; i < v.length; i++) {
            Arg arg = call.args[i];
            if (arg.names && (v[i] < arg.least || v[i] > arg.most)) {
                return call.unknown;
            }
        }
        return call.outside;
    }

    /** Price 0 is no wrong one, though it is not within 100 to 10000. */
    private static boolean isShut(Call call, int[] v) {
        return call.name.equals("price") && v[3] == 0;
    }

    private static void checkWrongOnes(Call call, int matches, boolean full, List<Long> untouched) {
        List<int[]> all = wrongCalls(call);
        all.removeIf(v -> isShut(call, v));
        for (int from = 0; from < all.size(); from += REFUSED_AT_ONCE) {
            Counted c = full ? fullStage() : stage(matches);
            for (int[] v : all.subList(from, Math.min(all.size(), from + REFUSED_AT_ONCE))) {
                due(call.told(v) + ", of " + matches + " matches", call.on(c, v), refusalOf(call, v));
            }
            due("refused calls of " + call.name + " change nothing", probe(c, matches).equals(untouched) ? 1 : 0, 1);
            due("calls on one object", c.calls <= MOST_CALLS ? 1 : 0, 1);
        }
    }

    private static void checkStage(int matches, boolean full) {
        List<Long> untouched = probe(full ? fullStage() : stage(matches), matches);
        for (Call call : calls(matches)) {
            boolean gap = false;
            for (Arg arg : call.args) {
                gap |= arg.isGap();
            }
            if (!gap && (matches > 0 || !call.name.equals("ofSide"))) {
                checkEnds(call, matches, full);
            }
            checkWrongOnes(call, matches, full, untouched);
        }
    }

    /** Without a match every match is unknown, 0 too, whatever the other arguments are. */
    private static void checkNoMatches() {
        for (Call call : calls(0)) {
            int[] zero = call.good();
            int[] wild = call.good();
            boolean gap = false;
            for (int i = 0; i < zero.length; i++) {
                gap |= call.args[i].isGap();
                zero[i] = call.args[i].isGap() ? 0 : zero[i];
                wild[i] = call.args[i].isGap() ? 0 : MAX;
            }
            if (gap) {
                due(call.told(zero) + ", without matches", call.on(new Counted(), zero), call.unknown);
                due(call.told(wild) + ", without matches", call.on(new Counted(), wild), call.unknown);
            }
        }
    }

    /** A refusal that no single range tells: its call, and what is due. */
    private static void refusedOnce(String what, Answer answer, long want, boolean full) {
        Counted c = full ? fullStage() : stage(4);
        due(what + (full ? ", full" : ""), answer.of(c.x(), new int[0]), want);
        List<Long> untouched = probe(full ? fullStage() : stage(4), full ? 12 : 4);
        due(what + " changes nothing", probe(c, full ? 12 : 4).equals(untouched) ? 1 : 0, 1);
    }

    private static void checkOthers(boolean full) {
        refusedOnce("match, both sides are one", (x, v) -> x.match(0, 0, 0), UNKNOWN, full);
        refusedOnce("match, both are one, no referee", (x, v) -> x.match(7, 7, 6), UNKNOWN, full);
        refusedOnce("answer, both hands are one", (x, v) -> x.answer(0, 0, 0), UNKNOWN, full);
        refusedOnce("answer, both are one, what", (x, v) -> x.answer(9, 9, 2), UNKNOWN, full);
        refusedOnce("meet, both persons are one", (x, v) -> x.meet(0, 0, 0), UNKNOWN, full);
        refusedOnce("meet, both are one, hour", (x, v) -> x.meet(9, 9, 1000), UNKNOWN, full);
        for (int price : new int[] {1, 50, 98, 99, -99, -100}) {
            refusedOnce("price " + price, (x, v) -> x.price(0, 0, 0, price), OUTSIDE, full);
        }
        refusedOnce("moves, more late than all", (x, v) -> x.moves(9, 199, 200), OUTSIDE, full);
        refusedOnce("moves, a late one of none", (x, v) -> x.moves(9, 0, 1), OUTSIDE, full);
        refusedOnce("moves, no player, more late than all", (x, v) -> x.moves(10, 0, 1), UNKNOWN, full);
        refusedOnce("story, from behind to", (x, v) -> x.story(0, 0, 1, 0), OUTSIDE, full);
        refusedOnce("story, from behind to", (x, v) -> x.story(0, 0, 999, 998), OUTSIDE, full);
        refusedOnce("story, no person, from behind to", (x, v) -> x.story(10, 0, 1, 0), UNKNOWN, full);
        refusedOnce("rule, a fault", (x, v) -> x.rule(), NO, full);
        if (full) {
            refusedOnce("a match more", (x, v) -> x.match(0, 1, 0), FULL, true);
            refusedOnce("a stake more", (x, v) -> x.stake(0, 0, 0, 0, 1), FULL, true);
            refusedOnce("a meeting more", (x, v) -> x.meet(0, 1, 0), FULL, true);
            refusedOnce("an act more", (x, v) -> x.act(0, 1), FULL, true);
            refusedOnce("a story more", (x, v) -> x.story(0, 0, 0, 0), FULL, true);
            refusedOnce("a sign more", (x, v) -> x.say('g'), FULL, true);
        } else {
            refusedOnce("holds, not joined", (x, v) -> x.holds(2, 1), NO, false);
        }
    }

    public static void main(String[] args) {
        checkStage(4, false);
        checkStage(11, false);
        checkStage(12, true);
        checkNoMatches();
        checkOthers(false);
        checkOthers(true);
        System.out.println(checked + " answers, " + wrong + " are not as due");
        if (wrong != 0) {
            System.exit(1);
        }
    }
}
