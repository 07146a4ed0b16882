import java.util.Arrays;

/**
 * A block of salt on the moor, the people who lick at it, and what is asked of the days to come.
 * The words written large (SALT, GRUDGE, RISES ..) are those of the document.
 */
public final class SaltPeace {
    public static final int NONE = -1, BAD = -2, STATE = -3, FULL = -4;
    public static final long NO = Long.MIN_VALUE;

    private static final int NOT_THERE = -5;
    private static final int OTHER_KIND = -6;
    private static final int FAULT_BASE = -10;
    private static final int NO_VALUE = -10001;

    private static final int SIDES = 6;
    private static final int MOST_PEOPLE = 6;
    private static final int PERSON = 0;
    private static final int GENTLE = 1;
    private static final int BITTER = 2;
    private static final int SLY = 3;
    private static final int MEEK = 4;
    private static final int PROUD = 5;
    private static final int TOLD = 6;
    private static final int ROW_LENGTH = 4;

    private static final int FIRST_SALT = 100;
    private static final int MOST_SALT = 999;
    private static final int MOST_GRUDGE = 99;
    private static final int MOST_EATEN = 9999;
    private static final int LAST_DAY = 9999;
    private static final int THIN = 20;

    private static final int MOST_SIGNS = 100;
    private static final int MOST_SIGN = 127;
    private static final int MOST_CLAUSES = 10;
    private static final int MOST_OPEN = 5;
    private static final int MOST_TREATIES = 5;
    private static final int RAIN_WITHOUT = 1;
    private static final int NEED_WITHOUT = 2;

    private static final int DAYS_AHEAD = 60;
    private static final int DAYS_LASTING = 99;
    private static final int DAYS_SEEN = 20;
    private static final int MOST_SEEN = 5;
    private static final int MOST_PLAN = 8;
    private static final int MOST_BOOK = 8;
    private static final int PLAN_DAY = 0;
    private static final int PLAN_ROOF = 1;
    private static final int PLAN_SALT = 2;
    private static final int PLAN_GRUDGE = 3;
    private static final int PLAN_MORE = 20;
    private static final int FILL_STEP = 10;
    private static final int FILL_MOST = 990;
    private static final int MOST_V = 9;
    private static final int TRACE_KEPT = 20;

    private final Rows tape = new Rows(MOST_SIGNS);
    private final Rows seen = new Rows(MOST_SEEN);
    private final Rows plan = new Rows(MOST_PLAN);
    private final Rows book = new Rows(MOST_BOOK);
    private final Rows trace = new Rows(TRACE_KEPT);
    private final Reader reader = new Reader();
    private final Moor moor;
    private final Moor kept;
    /** What is asked is tried out here, so that the moor itself stays as it is. */
    private final Moor trial;
    private boolean hasImage = false;

    public SaltPeace() {
        Treaty without = new Treaty(RAIN_WITHOUT, NEED_WITHOUT, new int[0], new int[0], new int[0]);
        Person nobody = new Person(PERSON, 0, 0, trace);
        moor = new Moor(without, nobody);
        kept = new Moor(without, nobody);
        trial = new Moor(without, nobody);
    }

    // ---- treaties, the block, people

    public int feed(int sign) {
        if (!isWithin(sign, 0, MOST_SIGN)) {
            return BAD;
        }
        if (tape.isFull()) {
            return FULL;
        }
        return tape.add(sign, 0, 0);
    }

    public int treaty() {
        if (moor.treaties >= MOST_TREATIES) {
            return FULL;
        }
        int fault = reader.faultIn(tape);
        tape.clear();
        if (fault >= 0) {
            return FAULT_BASE - fault;
        }
        moor.treaty = reader.treatyRead();
        moor.treaties++;
        return moor.treaties - 1;
    }

    public int person(int kind, int v, int side) {
        if (!isKind(kind) || !isSide(side)) {
            return NONE;
        }
        if (!isWithin(v, 0, MOST_V)) {
            return BAD;
        }
        if (moor.people >= MOST_PEOPLE) {
            return FULL;
        }
        return moor.comes(personOf(kind, moor.people, v), side);
    }

    public int of(int person, int what) {
        if (!isPerson(person)) {
            return NO_VALUE;
        }
        switch (what) {
            case 0: return moor.ones[person].kind;
            case 1: return moor.ones[person].v;
            case 2: return moor.side[person];
            case 3: return moor.grudge[person];
            case 4: return moor.eaten[person];
            case 5: return moor.risesOf(person);
            case 6: return moor.ones[person].mostLicked(moor.grudge[person], moor.day);
            case 7: return moor.takesNow(person);
            default: return NO_VALUE;
        }
    }

    public int row(int person, int k, int n) {
        if (!isPerson(person) || !isWithin(k, 0, ROW_LENGTH - 1)) {
            return NONE;
        }
        if (!isWithin(n, 0, 9)) {
            return BAD;
        }
        if (moor.ones[person].kind != TOLD) {
            return STATE;
        }
        int was = moor.rows[person * ROW_LENGTH + k];
        moor.rows[person * ROW_LENGTH + k] = n;
        return was;
    }

    public int set(int person, int what, int n) {
        if (!isPerson(person) || !isWithin(what, 0, 1)) {
            return NONE;
        }
        if (!isWithin(n, 0, what == 0 ? SIDES - 1 : MOST_GRUDGE)) {
            return BAD;
        }
        int[] values = what == 0 ? moor.side : moor.grudge;
        int was = values[person];
        values[person] = n;
        return was;
    }

    public int salt(int side, int n) {
        if (!isSide(side)) {
            return NONE;
        }
        if (!isWithin(n, 0, MOST_SALT)) {
            return BAD;
        }
        int was = moor.salt[side];
        moor.salt[side] = n;
        return was;
    }

    public int roof(int side, boolean is) {
        if (!isSide(side)) {
            return NONE;
        }
        int was = moor.hasRoof(side) ? 1 : 0;
        moor.roofs = is ? moor.roofs | 1 << side : moor.roofs & ~(1 << side);
        return was;
    }

    public int told(int what) {
        switch (what) {
            case 0: return moor.day;
            case 1: return moor.treaty.rain;
            case 2: return moor.treaty.need;
            case 3: return moor.war ? 1 : 0;
            case 4: return moor.allSalt();
            case 5: return moor.allGrudge();
            case 6: return moor.roofs;
            default: return isSide(what - 10) ? moor.salt[what - 10] : NONE;
        }
    }

    public int pass(int n) {
        if (!isWithin(n, 0, DAYS_AHEAD)) {
            return BAD;
        }
        if (moor.day + n > LAST_DAY) {
            return STATE;
        }
        moor.goDays(n);
        moor.capEaten();
        return moor.allSalt();
    }

    // ---- days to come

    public int on(int n, int what) {
        boolean isOfAll = isWithin(what, 0, 1);
        if (!isOfAll && !isSide(what - 10) && !isPerson(what - 20) && !isPerson(what - 30)) {
            return NONE;
        }
        if (!isWithin(n, 0, DAYS_AHEAD)) {
            return BAD;
        }
        Moor then = after(n);
        if (isOfAll) {
            return what == 0 ? then.allSalt() : then.allGrudge();
        }
        if (isSide(what - 10)) {
            return then.salt[what - 10];
        }
        return isPerson(what - 20) ? then.grudge[what - 20] : then.eaten[what - 30];
    }

    public int lasts() {
        int days = daysLasting(asItIs());
        return days > DAYS_LASTING ? NOT_THERE : days;
    }

    public int hollow() {
        return moor.thinnestSide();
    }

    public int thinnest(int n, int what) {
        if (!isWithin(what, 0, 1)) {
            return NONE;
        }
        if (!isWithin(n, 0, DAYS_AHEAD)) {
            return BAD;
        }
        Moor then = after(n);
        int side = then.thinnestSide();
        return what == 0 ? side : then.salt[side];
    }

    public int greediest(int n) {
        if (!isWithin(n, 1, DAYS_AHEAD)) {
            return BAD;
        }
        Moor then = after(n);
        int greediest = NOT_THERE;
        int most = -1;
        for (int p = 0; p < moor.people; p++) {
            int eats = then.eaten[p] - moor.eaten[p];
            if (eats > most) {
                most = eats;
                greediest = p;
            }
        }
        return greediest;
    }

    public int forgive() {
        int forgiving = NOT_THERE;
        int longest = daysLasting(asItIs());
        for (int p = 0; p < moor.people; p++) {
            int days = daysLasting(asIfStill(p));
            if (days > longest) {
                longest = days;
                forgiving = p;
            }
        }
        return forgiving;
    }

    public int move(int person) {
        if (!isPerson(person)) {
            return NONE;
        }
        int best = 0;
        int longest = -1;
        for (int side = 0; side < SIDES; side++) {
            int days = daysLasting(asIfAt(person, side));
            if (days > longest) {
                longest = days;
                best = side;
            }
        }
        return best;
    }

    public int roofs() {
        int best = NOT_THERE;
        int longest = daysLasting(asItIs());
        for (int side = 0; side < SIDES; side++) {
            // one that has a roof lasts as long as it is, and so is never longer
            Moor asked = asItIs();
            asked.roofs |= 1 << side;
            int days = daysLasting(asked);
            if (days > longest) {
                longest = days;
                best = side;
            }
        }
        return best;
    }

    // ---- shares, grudges; part 0 above, 1 below the line

    public long share(int person, int n, int part) {
        if (!isPerson(person) || !isWithin(n, 0, DAYS_AHEAD)) {
            return NO;
        }
        Moor then = after(n);
        int all = 0;
        for (int p = 0; p < moor.people; p++) {
            all += then.eaten[p] - moor.eaten[p];
        }
        return partOf(then.eaten[person] - moor.eaten[person], all, part);
    }

    public int angry(int n) {
        if (!isWithin(n, 0, MOST_GRUDGE)) {
            return BAD;
        }
        int angry = 0;
        for (int p = 0; p < moor.people; p++) {
            if (moor.grudge[p] >= n) {
                angry |= 1 << p;
            }
        }
        return angry;
    }

    public int held(int person) {
        if (!isPerson(person)) {
            return NONE;
        }
        Moor then = asItIs();
        for (int days = 0; days <= DAYS_AHEAD; days++) {
            if (then.grudge[person] == 0) {
                return days;
            }
            then.goDay();
        }
        return NOT_THERE;
    }

    public int worst(int person, int what) {
        if (!isPerson(person) || !isWithin(what, 0, 1)) {
            return NONE;
        }
        Moor then = asItIs();
        int worst = -1;
        int first = 0;
        for (int days = 0; days <= DAYS_AHEAD; days++) {
            if (then.grudge[person] > worst) {
                worst = then.grudge[person];
                first = days;
            }
            then.goDay();
        }
        return what == 0 ? worst : first;
    }

    public int watch(int k, int what) {
        if (!isWithin(what, 0, 1)) {
            return NONE;
        }
        if (!isWithin(k, 1, SIDES)) {
            return BAD;
        }
        Moor then = after(1);
        int best = 0;
        int most = -1;
        for (int sides = 0; sides < 1 << SIDES; sides++) {
            int taken = Integer.bitCount(sides) == k ? then.takenFrom(sides) : -1;
            if (taken > most) {
                most = taken;
                best = sides;
            }
        }
        return what == 0 ? best : most;
    }

    public int fill(int n, int side) {
        if (!isSide(side)) {
            return NONE;
        }
        if (!isWithin(n, 1, DAYS_AHEAD)) {
            return BAD;
        }
        for (int more = 0; more <= FILL_MOST; more += FILL_STEP) {
            Moor then = asItIs();
            then.addSalt(side, more);
            then.goDays(n);
            if (then.salt[side] > 0) {
                return more;
            }
        }
        return NOT_THERE;
    }

    // ---- seen, odds

    public int see(int side, int salt, int n) {
        if (side == -1) {
            return seen.clear();
        }
        if (!isSide(side)) {
            return NONE;
        }
        if (!isWithin(salt, 0, MOST_SALT) || !isWithin(n, 0, DAYS_SEEN)) {
            return BAD;
        }
        return seen.isFull() ? FULL : seen.add(side, salt, n);
    }

    public int who() {
        int those = 0;
        for (int p = 0; p < moor.people; p++) {
            if (isAllSeen(asIfStill(p))) {
                those |= 1 << p;
            }
        }
        return those;
    }

    public int firm(int person, int what) {
        if (!isPerson(person) || !isWithin(what, 0, 1)) {
            return NONE;
        }
        int many = 0;
        int least = NOT_THERE;
        for (int v = MOST_V; v >= 0; v--) {
            Moor asked = asItIs();
            asked.ones[person] = personOf(asked.ones[person].kind, person, v);
            if (isAllSeen(asked)) {
                many++;
                least = v;
            }
        }
        return what == 0 ? many : least;
    }

    public int where(int person) {
        if (!isPerson(person)) {
            return NONE;
        }
        int those = 0;
        for (int side = 0; side < SIDES; side++) {
            if (isAllSeen(asIfAt(person, side))) {
                those |= 1 << side;
            }
        }
        return those;
    }

    public long odds(int n, int part) {
        if (!isWithin(n, 0, DAYS_LASTING)) {
            return NO;
        }
        int atPeace = 0;
        for (int p = 0; p < moor.people; p++) {
            if (daysLasting(asIfStill(p)) > n) {
                atPeace++;
            }
        }
        return partOf(atPeace, moor.people, part);
    }

    public long mean(int n, int part) {
        if (!isWithin(n, 0, DAYS_AHEAD)) {
            return NO;
        }
        return partOf(after(n).allGrudge(), moor.people, part);
    }

    public int chips(int n) {
        return isWithin(n, 1, DAYS_AHEAD) ? after(n).washed : BAD;
    }

    // ---- plans, books

    public int plan(int what, int number) {
        if (what == -1) {
            return plan.clear();
        }
        if (!isPlanned(what, number)) {
            return NONE;
        }
        return plan.isFull() ? FULL : plan.add(what, number, 0);
    }

    public int done(int what) {
        if (!isWithin(what, 0, 1)) {
            return NONE;
        }
        Moor then = asItIs();
        for (int i = 0; i < plan.kept(); i++) {
            doRow(then, plan.first[i], plan.second[i]);
        }
        return what == 0 ? then.allSalt() : then.allGrudge();
    }

    public int book(int side, int salt) {
        if (side == -1) {
            return book.clear();
        }
        if (!isSide(side)) {
            return NONE;
        }
        if (!isWithin(salt, 0, MOST_SALT)) {
            return BAD;
        }
        return book.isFull() ? FULL : book.add(side, salt, 0);
    }

    public int looked() {
        for (int i = 0; i < book.kept(); i++) {
            if (moor.saltAt(book.first[i]) != book.second[i]) {
                return i;
            }
        }
        return NOT_THERE;
    }

    // ---- acts, the image

    public int act(int person, int act, int x) {
        trace.clear();
        if (!isPerson(person)) {
            return 0;
        }
        switch (act) {
            case 0: return moor.ones[person].wrongs(x);
            case 1: return moor.ones[person].licks(x);
            case 2: return moor.ones[person].tells(x);
            default: return 0;
        }
    }

    public int trace(int i) {
        return isWithin(i, 0, trace.kept() - 1) ? trace.first[i] : NONE;
    }

    public int as(int person, int k) {
        if (!isPerson(person) || !isKind(k)) {
            return NONE;
        }
        return isOfKind(moor.ones[person], k) ? moor.ones[person].v : OTHER_KIND;
    }

    public int image() {
        kept.copyFrom(moor);
        tape.keep();
        seen.keep();
        plan.keep();
        book.keep();
        hasImage = true;
        return moor.people;
    }

    public int undo() {
        if (!hasImage) {
            return STATE;
        }
        moor.copyFrom(kept);
        tape.comeBack();
        seen.comeBack();
        plan.comeBack();
        book.comeBack();
        return moor.people;
    }

    public int count(int what) {
        switch (what) {
            case 0: return moor.people;
            case 1: return moor.treaties;
            case 2: return seen.count;
            case 3: return plan.count;
            case 4: return book.count;
            case 5: return tape.count;
            case 6: return trace.count;
            default: return NONE;
        }
    }

    // ---- what is looked at ahead of an answer

    private static boolean isWithin(int n, int least, int most) {
        return n >= least && n <= most;
    }

    private static boolean isSide(int side) {
        return isWithin(side, 0, SIDES - 1);
    }

    private static boolean isKind(int kind) {
        return isWithin(kind, PERSON, TOLD);
    }

    private boolean isPerson(int person) {
        return isWithin(person, 0, moor.people - 1);
    }

    private boolean isPlanned(int what, int number) {
        switch (what) {
            case PLAN_DAY: return true;
            case PLAN_ROOF: return isSide(number);
            case PLAN_SALT: return isSide(number);
            case PLAN_GRUDGE: return isPerson(number);
            default: return false;
        }
    }

    // ---- days tried out

    private Moor asItIs() {
        trial.copyFrom(moor);
        return trial;
    }

    private Moor asIfStill(int person) {
        trial.copyFrom(moor);
        trial.still = person;
        return trial;
    }

    private Moor asIfAt(int person, int side) {
        trial.copyFrom(moor);
        trial.side[person] = side;
        return trial;
    }

    private Moor after(int days) {
        trial.copyFrom(moor);
        trial.goDays(days);
        return trial;
    }

    /** The days behind which it is WAR there; one more than the last that is asked, if not by then. */
    private static int daysLasting(Moor then) {
        for (int days = 0; days <= DAYS_LASTING; days++) {
            if (then.war) {
                return days;
            }
            then.goDay();
        }
        return DAYS_LASTING + 1;
    }

    private boolean isAllSeen(Moor then) {
        for (int days = 0; days <= DAYS_SEEN; days++) {
            if (!isSeenAfter(then, days)) {
                return false;
            }
            then.goDay();
        }
        return true;
    }

    private boolean isSeenAfter(Moor then, int days) {
        for (int i = 0; i < seen.kept(); i++) {
            if (seen.third[i] == days && then.saltAt(seen.first[i]) != seen.second[i]) {
                return false;
            }
        }
        return true;
    }

    private static void doRow(Moor then, int what, int number) {
        switch (what) {
            case PLAN_DAY:
                then.goDay();
                break;
            case PLAN_ROOF:
                then.roofs |= 1 << number;
                break;
            case PLAN_SALT:
                then.addSalt(number, PLAN_MORE);
                break;
            default:
                then.forgets(number);
                break;
        }
    }

    /** A part of above / below in lowest terms; NO, if there is no such part, or nothing below. */
    private static long partOf(int above, int below, int part) {
        if (!isWithin(part, 0, 1) || below < 1) {
            return NO;
        }
        int divisor = below;
        int rest = above;
        // a rest is less than half of the one before the last, so 64 steps are plenty for ints
        for (int i = 0; i < 64 && rest > 0; i++) {
            int next = divisor % rest;
            divisor = rest;
            rest = next;
        }
        return (part == 0 ? above : below) / Math.max(1, divisor);
    }

    // ---- people of their kinds

    private Person personOf(int kind, int number, int v) {
        switch (kind) {
            case GENTLE: return new Gentle(kind, number, v, trace);
            case BITTER: return new Bitter(kind, number, v, trace);
            case SLY: return new Sly(kind, number, v, trace);
            case MEEK: return new Meek(kind, number, v, trace);
            case PROUD: return new Proud(kind, number, v, trace);
            case TOLD: return new Told(kind, number, v, trace);
            default: return new Person(kind, number, v, trace);
        }
    }

    private static boolean isOfKind(Person one, int kind) {
        switch (kind) {
            case GENTLE: return one instanceof Gentle;
            case BITTER: return one instanceof Bitter;
            case SLY: return one instanceof Sly;
            case MEEK: return one instanceof Meek;
            case PROUD: return one instanceof Proud;
            case TOLD: return one instanceof Told;
            default: return true;
        }
    }

    /** One of PEOPLE; what changes by DAYS is kept by the Moor, so that one may stand in several of them. */
    private static class Person {
        final int kind;
        final int number;
        final int v;
        final Rows trace;

        Person(int kind, int number, int v, Rows trace) {
            this.kind = kind;
            this.number = number;
            this.v = v;
            this.trace = trace;
        }

        /** RISES, told its ANGER, the SALT of its SIDE, what its ROW has for the DAY, and the DAY. */
        int rises(int anger, int salt, int row, int day) {
            return anger;
        }

        int mostLicked(int grudge, int day) {
            return 10;
        }

        int wrongs(int x) {
            trace.add(1, 0, 0);
            return x + number;
        }

        int licks(int x) {
            trace.add(2, 0, 0);
            return wrongs(x) - v;
        }

        int tells(int x) {
            trace.add(3, 0, 0);
            return licks(x) * 2;
        }
    }

    private static class Gentle extends Person {
        Gentle(int kind, int number, int v, Rows trace) {
            super(kind, number, v, trace);
        }

        int rises(int anger, int salt, int row, int day) {
            return anger / 2;
        }

        int mostLicked(int grudge, int day) {
            return 4;
        }

        int wrongs(int x) {
            trace.add(11, 0, 0);
            return super.wrongs(x * 3);
        }
    }

    private static class Bitter extends Person {
        Bitter(int kind, int number, int v, Rows trace) {
            super(kind, number, v, trace);
        }

        int rises(int anger, int salt, int row, int day) {
            return super.rises(anger, salt, row, day) + v;
        }

        int mostLicked(int grudge, int day) {
            return 10 + 2 * v;
        }

        int licks(int x) {
            trace.add(21, 0, 0);
            return -super.licks(x);
        }
    }

    private static class Sly extends Person {
        Sly(int kind, int number, int v, Rows trace) {
            super(kind, number, v, trace);
        }

        int rises(int anger, int salt, int row, int day) {
            return salt < THIN ? 0 : super.rises(anger, salt, row, day);
        }

        int mostLicked(int grudge, int day) {
            return day % 2 == 1 ? 15 : 10;
        }

        int tells(int x) {
            trace.add(31, 0, 0);
            return super.tells(x) ^ 7;
        }
    }

    private static final class Meek extends Gentle {
        Meek(int kind, int number, int v, Rows trace) {
            super(kind, number, v, trace);
        }

        int rises(int anger, int salt, int row, int day) {
            return super.rises(anger, salt, row, day) - v;
        }

        int mostLicked(int grudge, int day) {
            return 0;
        }

        int tells(int x) {
            trace.add(41, 0, 0);
            return super.tells(x - 1) + wrongs(2);
        }
    }

    private static final class Proud extends Bitter {
        Proud(int kind, int number, int v, Rows trace) {
            super(kind, number, v, trace);
        }

        int rises(int anger, int salt, int row, int day) {
            int asBitter = super.rises(anger, salt, row, day);
            int every = Math.max(1, v + 2);
            return day % every == 0 ? 2 * asBitter : asBitter;
        }

        int mostLicked(int grudge, int day) {
            return grudge > 80 ? 0 : super.mostLicked(grudge, day);
        }

        int wrongs(int x) {
            trace.add(51, 0, 0);
            return super.wrongs(x) ^ number;
        }
    }

    private static final class Told extends Sly {
        Told(int kind, int number, int v, Rows trace) {
            super(kind, number, v, trace);
        }

        int rises(int anger, int salt, int row, int day) {
            return super.rises(anger, salt, row, day) + row;
        }

        int licks(int x) {
            trace.add(61, 0, 0);
            return super.licks(x) + v;
        }
    }

    /** All that DAYS change or look at: THE BLOCK, PEOPLE, DAY, WAR and the TREATY that holds. */
    private static final class Moor {
        final int[] salt = new int[SIDES];
        /** By licking, on the latest DAY. */
        final int[] taken = new int[SIDES];
        final Person[] ones = new Person[MOST_PEOPLE];
        final int[] side = new int[MOST_PEOPLE];
        final int[] grudge = new int[MOST_PEOPLE];
        final int[] eaten = new int[MOST_PEOPLE];
        final int[] rows = new int[MOST_PEOPLE * ROW_LENGTH];
        /** What the letters p k v s g d stand for, while the ANGER of one is told. */
        private final int[] letters = new int[Treaty.LETTERS];
        int people = 0;
        int roofs = 0;
        int day = 0;
        boolean war = false;
        Treaty treaty;
        int treaties = 0;
        /** Who licks no more (-1: nobody). */
        int still = -1;
        /** What rain has taken since this went on from another. */
        int washed = 0;

        Moor(Treaty treaty, Person nobody) {
            this.treaty = treaty;
            for (int p = 0; p < MOST_PEOPLE; p++) {
                ones[p] = nobody;
            }
            Arrays.fill(salt, FIRST_SALT);
        }

        void copyFrom(Moor other) {
            System.arraycopy(other.salt, 0, salt, 0, SIDES);
            System.arraycopy(other.side, 0, side, 0, MOST_PEOPLE);
            System.arraycopy(other.grudge, 0, grudge, 0, MOST_PEOPLE);
            System.arraycopy(other.eaten, 0, eaten, 0, MOST_PEOPLE);
            System.arraycopy(other.rows, 0, rows, 0, MOST_PEOPLE * ROW_LENGTH);
            for (int p = 0; p < MOST_PEOPLE; p++) {
                ones[p] = other.ones[p];
            }
            people = other.people;
            roofs = other.roofs;
            day = other.day;
            war = other.war;
            treaty = other.treaty;
            treaties = other.treaties;
            still = -1;
            washed = 0;
        }

        /** One comes, with no GRUDGE, nothing EATEN and a ROW of noughts; its number. */
        int comes(Person one, int where) {
            if (people >= MOST_PEOPLE) {
                return FULL;
            }
            int p = people;
            ones[p] = one;
            side[p] = where;
            grudge[p] = 0;
            eaten[p] = 0;
            Arrays.fill(rows, p * ROW_LENGTH, (p + 1) * ROW_LENGTH, 0);
            people++;
            return p;
        }

        boolean hasRoof(int where) {
            return (roofs >> where & 1) == 1;
        }

        int saltAt(int where) {
            return where >= 0 && where < SIDES ? salt[where] : 0;
        }

        void addSalt(int where, int more) {
            if (isSide(where)) {
                salt[where] = Math.min(MOST_SALT, salt[where] + more);
            }
        }

        void forgets(int p) {
            if (isWithin(p, 0, people - 1)) {
                grudge[p] = 0;
            }
        }

        int allSalt() {
            int all = 0;
            for (int s = 0; s < SIDES; s++) {
                all += salt[s];
            }
            return all;
        }

        int allGrudge() {
            int all = 0;
            for (int p = 0; p < people; p++) {
                all += grudge[p];
            }
            return all;
        }

        int thinnestSide() {
            int thinnest = 0;
            for (int s = 1; s < SIDES; s++) {
                if (salt[s] < salt[thinnest]) {
                    thinnest = s;
                }
            }
            return thinnest;
        }

        int takenFrom(int sides) {
            int all = 0;
            for (int s = 0; s < SIDES; s++) {
                all += (sides >> s & 1) * taken[s];
            }
            return all;
        }

        void capEaten() {
            for (int p = 0; p < people; p++) {
                eaten[p] = Math.min(MOST_EATEN, eaten[p]);
            }
        }

        int risesOf(int p) {
            Person one = ones[p];
            letters[0] = p;
            letters[1] = one.kind;
            letters[2] = one.v;
            letters[3] = side[p];
            letters[4] = grudge[p] / 10;
            letters[5] = day % 10;
            int row = rows[p * ROW_LENGTH + day % ROW_LENGTH];
            return one.rises(treaty.anger(letters), saltAt(side[p]), row, day);
        }

        int takesNow(int p) {
            int most = p == still ? 0 : ones[p].mostLicked(grudge[p], day);
            return Math.min(Math.min(most, grudge[p] * treaty.need), saltAt(side[p]));
        }

        void goDays(int days) {
            for (int i = 0; i < days; i++) {
                goDay();
            }
        }

        void goDay() {
            // nobody's RISES look at another's GRUDGE, so one after the other is as good as all at once
            for (int p = 0; p < people; p++) {
                grudge[p] = Math.max(0, Math.min(MOST_GRUDGE, grudge[p] + risesOf(p)));
            }
            Arrays.fill(taken, 0);
            for (int p = 0; p < people; p++) {
                lick(p);
            }
            rainFalls();
            war = war || allSalt() == 0;
            day++;
        }

        private void lick(int p) {
            int takes = takesNow(p);
            int where = side[p];
            salt[where] -= takes;
            taken[where] += takes;
            eaten[p] += takes;
            grudge[p] -= takes / Math.max(1, treaty.need);
        }

        private void rainFalls() {
            for (int s = 0; s < SIDES; s++) {
                int washes = hasRoof(s) ? 0 : Math.min(treaty.rain, salt[s]);
                salt[s] -= washes;
                washed += washes;
            }
        }
    }

    /**
     * A TREATY as it was read. E of each wrong and calm is kept as steps over a stack of truths:
     * a TEST puts one on it, the others join what lies on top.
     */
    private static final class Treaty {
        static final int LETTERS = 6;
        static final int AND = -1;
        static final int OR = -2;
        static final int NOT = -3;

        final int rain;
        final int need;
        /** n of each wrong, -n of each calm. */
        private final int[] amounts;
        /** Where in the steps the E of each is over; the next one's begins there. */
        private final int[] ends;
        private final int[] steps;

        Treaty(int rain, int need, int[] amounts, int[] ends, int[] steps) {
            this.rain = rain;
            this.need = Math.max(1, need);
            this.amounts = amounts;
            this.ends = ends;
            this.steps = steps;
        }

        static int testStep(int letter, int sign, int number) {
            return (letter * 3 + sign) * 100 + number;
        }

        int anger(int[] letters) {
            int anger = 0;
            int from = 0;
            for (int i = 0; i < amounts.length && i < ends.length; i++) {
                if (holds(from, ends[i], letters)) {
                    anger += amounts[i];
                }
                from = ends[i];
            }
            return anger;
        }

        private boolean holds(int from, int to, int[] letters) {
            // bits are enough: two wait in each of at most five ( and outside of them
            int truths = 0;
            for (int i = Math.max(0, from); i < to && i < steps.length; i++) {
                int top = truths & 1;
                switch (steps[i]) {
                    case NOT:
                        truths ^= 1;
                        break;
                    case AND:
                        truths = truths >>> 1 & (top | ~1);
                        break;
                    case OR:
                        truths = truths >>> 1 | top;
                        break;
                    default:
                        truths = truths << 1 | (isSo(steps[i], letters) ? 1 : 0);
                        break;
                }
            }
            return (truths & 1) == 1;
        }

        private static boolean isSo(int test, int[] letters) {
            int letter = test / 300;
            if (letter < 0 || letter >= letters.length) {
                return false;
            }
            int value = letters[letter];
            int number = test % 100;
            switch (test / 100 % 3) {
                case 0: return value < number;
                case 1: return value == number;
                default: return value > number;
            }
        }
    }

    /** Reads THE TAPE byte by byte; it stands still at the first byte that can't be. */
    private static final class Reader {
        /** The first letters of rain, need, wrong, calm. */
        private static final String WORDS = "rnwc";
        private static final String LETTERS = "pkvsgd";
        private static final String SIGNS = "<=>";
        private static final String DIGITS = "0123456789";

        private final int[] signs = new int[MOST_SIGNS];
        private final int[] amounts = new int[MOST_CLAUSES];
        private final int[] ends = new int[MOST_CLAUSES];
        private final int[] steps = new int[MOST_SIGNS];
        private int size = 0;
        private int at = 0;
        private int judged = 0;
        private int stepped = 0;
        private int rain = RAIN_WITHOUT;
        private int need = NEED_WITHOUT;

        /** The FAULT; -1, if THE TAPE is a TREATY. */
        int faultIn(Rows tape) {
            start(tape);
            for (int clauses = 1; clauses <= MOST_CLAUSES; clauses++) {
                if (!clause()) {
                    return at;
                }
                if (at == size) {
                    return -1;
                }
                if (clauses == MOST_CLAUSES || !accept(';')) {
                    return at;
                }
            }
            return at;
        }

        Treaty treatyRead() {
            return new Treaty(rain, need, Arrays.copyOf(amounts, judged), Arrays.copyOf(ends, judged),
                Arrays.copyOf(steps, stepped));
        }

        private void start(Rows tape) {
            size = Math.min(tape.kept(), MOST_SIGNS);
            System.arraycopy(tape.first, 0, signs, 0, size);
            at = 0;
            judged = 0;
            stepped = 0;
            rain = RAIN_WITHOUT;
            need = NEED_WITHOUT;
        }

        private boolean clause() {
            int word = choice(WORDS);
            if (word < 0 || !rest(word)) {
                return false;
            }
            int n = number();
            if (n < 0) {
                return false;
            }
            switch (word) {
                case 0:
                    rain = n;
                    return true;
                case 1:
                    need = n;
                    return true;
                default:
                    return accept(' ') && expression(0) && judge(word == 2 ? n : -n);
            }
        }

        /** The word behind its first letter, and the blank behind the word. */
        private boolean rest(int word) {
            String rest = word == 0 ? "ain " : word == 1 ? "eed " : word == 2 ? "rong " : "alm ";
            for (int i = 0; i < rest.length(); i++) {
                if (!accept(rest.charAt(i))) {
                    return false;
                }
            }
            return true;
        }

        private boolean judge(int amount) {
            if (judged >= MOST_CLAUSES) {
                return false;
            }
            amounts[judged] = amount;
            ends[judged] = stepped;
            judged++;
            return true;
        }

        /** An E, with so many of ! and ( open round it. */
        private boolean expression(int open) {
            boolean and = false;
            boolean or = false;
            for (int i = 0; i < MOST_SIGNS; i++) {
                if (!factor(open)) {
                    return false;
                }
                if (and) {
                    step(Treaty.AND);
                }
                and = accept('&');
                if (and) {
                    continue;
                }
                if (or) {
                    step(Treaty.OR);
                }
                or = accept('|');
                if (!or) {
                    return true;
                }
            }
            return false;
        }

        private boolean factor(int open) {
            if (open < MOST_OPEN && accept('!')) {
                if (!factor(open + 1)) {
                    return false;
                }
                step(Treaty.NOT);
                return true;
            }
            if (open < MOST_OPEN && accept('(')) {
                return expression(open + 1) && accept(')');
            }
            int letter = choice(LETTERS);
            int sign = letter < 0 ? -1 : choice(SIGNS);
            int number = sign < 0 ? -1 : number();
            if (number < 0) {
                return false;
            }
            step(Treaty.testStep(letter, sign, number));
            return true;
        }

        /** One or two digits; -1, if there is none. Behind a 0 ahead no digit is taken, so that it is a FAULT. */
        private int number() {
            int first = choice(DIGITS);
            if (first <= 0) {
                return first;
            }
            int second = choice(DIGITS);
            return second < 0 ? first : first * 10 + second;
        }

        private void step(int step) {
            // each step has at least one byte of its own, so there is room for all
            if (stepped < MOST_SIGNS) {
                steps[stepped] = step;
                stepped++;
            }
        }

        private boolean accept(int sign) {
            if (at >= size || at >= MOST_SIGNS || signs[at] != sign) {
                return false;
            }
            at++;
            return true;
        }

        private int choice(String of) {
            int found = at < size && at < MOST_SIGNS ? of.indexOf((char) signs[at]) : -1;
            if (found >= 0) {
                at++;
            }
            return found;
        }
    }

    /** Rows of up to three numbers, so many at most; those behind the last that is kept are only counted. */
    private static final class Rows {
        final int[] first;
        final int[] second;
        final int[] third;
        int count = 0;
        private final int[] imageFirst;
        private final int[] imageSecond;
        private final int[] imageThird;
        private int imageCount = 0;

        Rows(int most) {
            int length = Math.max(0, most);
            first = new int[length];
            second = new int[length];
            third = new int[length];
            imageFirst = new int[length];
            imageSecond = new int[length];
            imageThird = new int[length];
        }

        boolean isFull() {
            return count >= first.length;
        }

        int kept() {
            return Math.min(count, first.length);
        }

        int add(int a, int b, int c) {
            if (count >= 0 && count < first.length) {
                first[count] = a;
                second[count] = b;
                third[count] = c;
            }
            count++;
            return count;
        }

        int clear() {
            count = 0;
            return count;
        }

        void keep() {
            System.arraycopy(first, 0, imageFirst, 0, first.length);
            System.arraycopy(second, 0, imageSecond, 0, second.length);
            System.arraycopy(third, 0, imageThird, 0, third.length);
            imageCount = count;
        }

        void comeBack() {
            System.arraycopy(imageFirst, 0, first, 0, first.length);
            System.arraycopy(imageSecond, 0, second, 0, second.length);
            System.arraycopy(imageThird, 0, third, 0, third.length);
            count = imageCount;
        }
    }
}
