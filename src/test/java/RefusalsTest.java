import java.util.function.Supplier;

/**
 * What is refused, promise by promise: the last number that is taken and the first that is not, on both sides; of two
 * refusals at once the one that goes first; and all that is there left as it was.
 */
public final class RefusalsTest {
    private static final int NONE = SaltPeace.NONE, BAD = SaltPeace.BAD, STATE = SaltPeace.STATE, FULL = SaltPeace.FULL;
    private static final long NO = SaltPeace.NO;
    private static final long NO_VALUE = -10001;

    /** A call with its numbers in a row. */
    private interface Call {
        long of(SaltPeace x, int[] with);
    }

    /** The numbers that are taken at one place, and how another is refused. */
    private record Range(int least, int most, long refusal) {
        /** The first ones outside come first; they stand for the others where two are refused at once. */
        int[] outside() {
            return new int[] {least - 1, most + 1, Integer.MIN_VALUE, Integer.MAX_VALUE};
        }

        int rank() {
            return refusal == BAD ? 1 : 0;
        }
    }

    private static final Call FEED = (x, n) -> x.feed(n[0]);
    private static final Call TREATY = (x, n) -> x.treaty();
    private static final Call PERSON = (x, n) -> x.person(n[0], n[1], n[2]);
    private static final Call ROW = (x, n) -> x.row(n[0], n[1], n[2]);
    private static final Call PASS = (x, n) -> x.pass(n[0]);
    /** -1 clears these three, so the first number outside is one less. */
    private static final Call SEE = (x, n) -> x.see(n[0] < 0 ? n[0] - 1 : n[0], n[1], n[2]);
    private static final Call PLAN = (x, n) -> x.plan(n[0] < 0 ? n[0] - 1 : n[0], n[1]);
    private static final Call BOOK = (x, n) -> x.book(n[0] < 0 ? n[0] - 1 : n[0], n[1]);

    public static void main(String[] args) {
        treatiesAndPeople();
        theBlock();
        daysToCome();
        sharesAndGrudges();
        seenAndOdds();
        plansAndBooks();
        actsAndCounts();
        gaps();
        fullOnes();
        anotherKind();
        lateDays();
        Due.end("RefusalsTest");
    }

    // ---- one call refused, or taken

    private static String told(String name, int[] with) {
        StringBuilder told = new StringBuilder(name);
        for (int n : with) {
            told.append(' ').append(n);
        }
        return told.toString();
    }

    private static void refused(Supplier<SaltPeace> made, String name, Call call, long refusal, int... with) {
        SaltPeace x = made.get();
        String told = told(name, with);
        Due.due(told, call.of(x, with), refusal);
        Twins.alike(told, x, made.get());
    }

    private static void taken(Supplier<SaltPeace> made, String name, Call call, long refusal, int... with) {
        boolean isRefused = call.of(made.get(), with) == refusal;
        Due.due(told(name, with) + " is refused", isRefused ? 1 : 0, 0);
    }

    private static int[] but(int[] with, int place, int n) {
        int[] other = with.clone();
        other[place] = n;
        return other;
    }

    /** Each number outside its range alone, and each two outside theirs. */
    private static void outside(Supplier<SaltPeace> made, String name, Call call, int[] with, Range... ranges) {
        for (int i = 0; i < ranges.length; i++) {
            for (int n : ranges[i].outside()) {
                refused(made, name, call, ranges[i].refusal, but(with, i, n));
            }
            for (int j = 0; j < i; j++) {
                Range first = ranges[i].rank() < ranges[j].rank() ? ranges[i] : ranges[j];
                for (int edge = 0; edge < 4; edge++) {
                    int[] both = but(with, i, ranges[i].outside()[edge & 1]);
                    refused(made, name, call, first.refusal, but(both, j, ranges[j].outside()[edge >> 1]));
                }
            }
        }
    }

    /** With these numbers the call is taken; each of its ranges is tried up to its edges and beyond. */
    private static void edges(String name, Call call, int[] with, Range... ranges) {
        for (int i = 0; i < ranges.length; i++) {
            taken(Made::busy, name, call, ranges[i].refusal, but(with, i, ranges[i].least));
            taken(Made::busy, name, call, ranges[i].refusal, but(with, i, ranges[i].most));
        }
        outside(Made::busy, name, call, with, ranges);
    }

    private static int[] with(int... numbers) {
        return numbers;
    }

    private static Range in(int least, int most, long refusal) {
        return new Range(least, most, refusal);
    }

    private static Range person() {
        return in(0, Made.BUSY - 1, NONE);
    }

    private static Range side() {
        return in(0, 5, NONE);
    }

    // ---- the promises

    private static void treatiesAndPeople() {
        edges("feed", FEED, with(9), in(0, 127, BAD));
        edges("person", PERSON, with(0, 0, 0), in(0, 6, NONE), in(0, 9, BAD), side());
        edges("of", (x, n) -> x.of(n[0], n[1]), with(0, 0), in(0, Made.BUSY - 1, NO_VALUE), in(0, 7, NO_VALUE));
        edges("row", ROW, with(0, 0, 5), person(), in(0, 3, NONE), in(0, 9, BAD));
        edges("set SIDE", (x, n) -> x.set(n[0], 0, n[1]), with(1, 3), person(), in(0, 5, BAD));
        edges("set GRUDGE", (x, n) -> x.set(n[0], 1, n[1]), with(1, 3), person(), in(0, 99, BAD));
        edges("set", (x, n) -> x.set(n[0], n[1], n[2]), with(1, 1, 5), person(), in(0, 1, NONE), in(0, 99, BAD));
    }

    private static void theBlock() {
        edges("salt", (x, n) -> x.salt(n[0], n[1]), with(0, 7), side(), in(0, 999, BAD));
        edges("roof", (x, n) -> x.roof(n[0], true), with(1), side());
        edges("roof away", (x, n) -> x.roof(n[0], false), with(4), side());
        edges("told SALT", (x, n) -> x.told(n[0]), with(10), in(10, 15, NONE));
        edges("pass", PASS, with(1), in(0, 60, BAD));
    }

    private static void daysToCome() {
        Range days = in(0, 60, BAD);
        edges("on", (x, n) -> x.on(n[0], n[1]), with(9, 0), days, in(0, 1, NONE));
        edges("on SALT", (x, n) -> x.on(n[0], n[1]), with(9, 10), days, in(10, 15, NONE));
        edges("on GRUDGE", (x, n) -> x.on(n[0], n[1]), with(9, 20), days, in(20, 20 + Made.BUSY - 1, NONE));
        edges("on EATEN", (x, n) -> x.on(n[0], n[1]), with(9, 30), days, in(30, 30 + Made.BUSY - 1, NONE));
        edges("thinnest", (x, n) -> x.thinnest(n[0], n[1]), with(9, 0), days, in(0, 1, NONE));
        edges("greediest", (x, n) -> x.greediest(n[0]), with(9), in(1, 60, BAD));
        edges("move", (x, n) -> x.move(n[0]), with(0), person());
    }

    private static void sharesAndGrudges() {
        Range part = in(0, 1, NO);
        edges("share", (x, n) -> x.share(n[0], n[1], n[2]), with(0, 9, 0), in(0, Made.BUSY - 1, NO), in(1, 60, NO), part);
        edges("angry", (x, n) -> x.angry(n[0]), with(9), in(0, 99, BAD));
        edges("held", (x, n) -> x.held(n[0]), with(0), person());
        edges("worst", (x, n) -> x.worst(n[0], n[1]), with(0, 0), person(), in(0, 1, NONE));
        edges("watch", (x, n) -> x.watch(n[0], n[1]), with(3, 0), in(1, 6, BAD), in(0, 1, NONE));
        edges("fill", (x, n) -> x.fill(n[0], n[1]), with(9, 0), in(1, 60, BAD), side());
        // no DAYS are taken, but nothing is EATEN in them
        refused(Made::busy, "share of no DAYS", (x, n) -> x.share(0, n[0], n[1]), NO, 0, 0);
    }

    private static void seenAndOdds() {
        edges("see", SEE, with(0, 5, 5), side(), in(0, 999, BAD), in(0, 20, BAD));
        edges("firm", (x, n) -> x.firm(n[0], n[1]), with(0, 0), person(), in(0, 1, NONE));
        edges("where", (x, n) -> x.where(n[0]), with(0), person());
        edges("odds", (x, n) -> x.odds(n[0], n[1]), with(9, 0), in(0, 99, NO), in(0, 1, NO));
        edges("mean", (x, n) -> x.mean(n[0], n[1]), with(9, 0), in(0, 60, NO), in(0, 1, NO));
        edges("chips", (x, n) -> x.chips(n[0]), with(9), in(1, 60, BAD));
    }

    private static void plansAndBooks() {
        edges("plan", PLAN, with(1, 0), in(0, 3, NONE));
        edges("plan ROOF", (x, n) -> x.plan(1, n[0]), with(0), side());
        edges("plan SALT", (x, n) -> x.plan(2, n[0]), with(0), side());
        edges("plan GRUDGE", (x, n) -> x.plan(3, n[0]), with(0), person());
        edges("done", (x, n) -> x.done(n[0]), with(0), in(0, 1, NONE));
        edges("book", BOOK, with(0, 5), side(), in(0, 999, BAD));
    }

    private static void actsAndCounts() {
        // seven bodies ran in the latest act
        edges("trace", (x, n) -> x.trace(n[0]), with(0), in(0, 4, NONE));
        edges("as", (x, n) -> x.as(n[0], n[1]), with(0, 0), person(), in(0, 6, NONE));
        edges("count", (x, n) -> x.count(n[0]), with(0), in(0, 6, NONE));
        refused(SaltPeace::new, "undo without an image", (x, n) -> x.undo(), STATE);
    }

    private static void noneOf(String name, Call call, int... those) {
        for (int what : those) {
            refused(Made::busy, name, call, NONE, what);
        }
    }

    /** Numbers between those that stand for something. */
    private static void gaps() {
        Call told = (x, n) -> x.told(n[0]);
        edges("told", told, with(0), in(0, 6, NONE));
        noneOf("told", told, 7, 8, 9, 16, 20, 30);
        noneOf("on", (x, n) -> x.on(9, n[0]), 2, 3, 8, 9, 16, 17, 18, 19, 23, 25, 26, 29, 33, 35, 36, 40);
        noneOf("on too many DAYS", (x, n) -> x.on(61, n[0]), 2, 9, 16, 19, 23, 29, 33, 36);
        Call act = (x, n) -> x.act(n[0], n[1], 5);
        for (int i = 0; i < 4; i++) {
            noAct(act, but(with(0, 0), 0, person().outside()[i]));
            noAct(act, but(with(0, 0), 1, in(0, 2, 0).outside()[i]));
        }
    }

    /** An act that there is not is no refusal, as THE TRACE goes by it, but all else stays. */
    private static void noAct(Call act, int[] with) {
        SaltPeace x = Made.busy();
        String told = told("act", with);
        Due.due(told, act.of(x, with), 0);
        Due.due("bodies of " + told, x.count(6), 0);
        Due.due("TRACE of " + told, x.trace(0), NONE);
        SaltPeace y = Made.busy();
        y.act(0, 0, 5);
        x.act(0, 0, 5);
        Twins.alike(told, x, y);
    }

    private static void fullOf(String name, Call call, int[] with, Range... ranges) {
        refused(Made::full, name, call, FULL, with);
        outside(Made::full, name, call, with, ranges);
    }

    private static void fullOnes() {
        fullOf("a sign over 100", FEED, with('r'), in(0, 127, BAD));
        fullOf("a sixth TREATY", TREATY, with());
        fullOf("a seventh", PERSON, with(6, 9, 5), in(0, 6, NONE), in(0, 9, BAD), side());
        fullOf("a sixth SEEN", SEE, with(5, 999, 20), side(), in(0, 999, BAD), in(0, 20, BAD));
        fullOf("a ninth row", PLAN, with(3, 5), in(0, 3, NONE), in(0, 5, NONE));
        fullOf("a ninth DAY", PLAN, with(0, -9));
        fullOf("a ninth of BOOK", BOOK, with(5, 999), side(), in(0, 999, BAD));
        refused(RefusalsTest::withoutTape, "a sixth TREATY of nothing", TREATY, FULL);
    }

    private static SaltPeace withoutTape() {
        SaltPeace x = new SaltPeace();
        for (int i = 0; i < 5; i++) {
            Due.due("treaty " + i, Due.treaty(x, "rain " + i), i);
        }
        return x;
    }

    private static void anotherKind() {
        for (int kind = 0; kind <= 6; kind++) {
            int which = kind;
            Supplier<SaltPeace> one = () -> {
                SaltPeace x = Made.busy();
                Due.due("one more", x.person(which, 3, 3), Made.BUSY);
                return x;
            };
            if (kind == 6) {
                taken(one, "row of KIND 6", ROW, STATE, Made.BUSY, 0, 5);
                continue;
            }
            refused(one, "row of KIND " + kind, ROW, STATE, Made.BUSY, 0, 5);
            refused(one, "row of KIND " + kind, ROW, STATE, Made.BUSY, 3, 9);
            outside(one, "row of KIND " + kind, ROW, with(Made.BUSY, 0, 5), in(0, Made.BUSY, NONE), in(0, 3, NONE), in(0, 9, BAD));
        }
    }

    private static void lateDays() {
        Supplier<SaltPeace> late = () -> Made.late("rain 0", 0, 0, 0);
        taken(late, "pass to 9999", PASS, STATE, 39);
        refused(late, "pass beyond 9999", PASS, STATE, 40);
        refused(late, "pass beyond 9999", PASS, STATE, 60);
        outside(late, "pass beyond 9999", PASS, with(40), in(0, 60, BAD));
    }
}
