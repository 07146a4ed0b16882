/** Promises 12 to 36 where the document names a bound: each sentence of that kind has a test of its own here. */
public final class AheadBoundsTest {
    private static final int FIVE = -5;
    private static final long NO = SaltPeace.NO;

    public static void main(String[] args) {
        askingChangesNothing();
        onNoneAndOn60();
        daysBeyond9999();
        lastsUpTo99();
        thinnestOfSeveral();
        greediestOfSeveral();
        forgiveLongerThanAny();
        moveLongerThanAny();
        moveToTheLast();
        roofLongerThanAny();
        shareOfNothing();
        angryAtTheEdges();
        heldUpTo60();
        worstUpTo60();
        watchOfSeveral();
        fillUpTo990();
        fillUpTo999();
        seenNowAndBehind20();
        seenOnALaterDay();
        whoOfNobodyAndOfSix();
        firmOfTheLeastAndTheGreatest();
        whereAtTheFirstAndTheLast();
        oddsUpTo99();
        meanInLowestTerms();
        chipsOfWhatThereIs();
        planOf8();
        bookOf8();
        clearedWhateverTheOthersAre();
        Due.end("AheadBoundsTest");
    }

    private static SaltPeace empty(SaltPeace x) {
        Due.salts(x, 0, 0, 0, 0, 0, 0);
        return x;
    }

    /** One that is at WAR, with SALT again. */
    private static SaltPeace atWar(int... kindVSide) {
        SaltPeace x = empty(Made.hungry(kindVSide));
        x.pass(1);
        Due.due("WAR", x.told(3), 1);
        Due.salts(x, 90, 90, 90, 90, 90, 90);
        return x;
    }

    private static void askAll(SaltPeace x) {
        x.on(60, 0);
        x.on(7, 30);
        x.lasts();
        x.hollow();
        x.thinnest(60, 1);
        x.greediest(60);
        x.forgive();
        x.roofs();
        x.who();
        x.odds(99, 1);
        x.mean(60, 0);
        x.chips(60);
        x.angry(5);
        x.done(0);
        x.looked();
        for (int p = 0; p < 6; p++) {
            x.move(p);
            x.share(p, 60, 0);
            x.held(p);
            x.worst(p, 0);
            x.watch(p + 1, 0);
            x.fill(60, p);
            x.firm(p, 0);
            x.where(p);
            x.as(p, 0);
        }
    }

    private static void askingChangesNothing() {
        SaltPeace x = Made.busy(), y = Made.full(), z = new SaltPeace();
        askAll(x);
        askAll(y);
        askAll(z);
        Twins.alike("asking the busy one", x, Made.busy());
        Twins.alike("asking the full one", y, Made.full());
        Twins.alike("asking the new one", z, new SaltPeace());
    }

    private static void onNoneAndOn60() {
        SaltPeace x = Made.busy(), y = Made.busy();
        y.pass(60);
        Due.due("SALT on 0", x.on(0, 0), x.told(4));
        Due.due("SALT on 60", x.on(60, 0), y.told(4));
        Due.due("GRUDGE on 0", x.on(0, 1), x.told(5));
        Due.due("GRUDGE on 60", x.on(60, 1), y.told(5));
        for (int side = 0; side < 6; side++) {
            Due.due("SALT on 0 at " + side, x.on(0, 10 + side), x.told(10 + side));
            Due.due("SALT on 60 at " + side, x.on(60, 10 + side), y.told(10 + side));
        }
        for (int p = 0; p < Made.BUSY; p++) {
            Due.due("GRUDGE on 0 of " + p, x.on(0, 20 + p), x.of(p, 3));
            Due.due("GRUDGE on 60 of " + p, x.on(60, 20 + p), y.of(p, 3));
            Due.due("EATEN on 0 of " + p, x.on(0, 30 + p), x.of(p, 4));
            Due.due("EATEN on 60 of " + p, x.on(60, 30 + p), y.of(p, 4));
        }
    }

    private static void daysBeyond9999() {
        SaltPeace x = Made.late("rain 0;need 99;wrong 5 d=0", 6, 0, 0, 5, 8, 1, 3, 0, 2);
        x.pass(39);
        Due.due("DAY", x.told(0), 9999);
        int[] row = {1, 2, 3, 4};
        for (int k = 0; k < 4; k++) {
            x.row(0, k, row[k]);
        }
        empty(x);
        for (int p = 0; p < 3; p++) {
            x.set(p, 1, 0);
        }
        // DAYS 9999, 10000, 10001: the ROW at 3, 0, 1
        Due.due("TOLD behind 1", x.on(1, 20), 4);
        Due.due("TOLD behind 2", x.on(2, 20), 4 + 1);
        Due.due("TOLD behind 3", x.on(3, 20), 4 + 1 + 2);
        // PROUD, v 8: twice 5 and 8 on 10000
        Due.due("PROUD behind 1", x.on(1, 21), 8);
        Due.due("PROUD behind 2", x.on(2, 21), 8 + 26);
        Due.due("PROUD behind 3", x.on(3, 21), 8 + 26 + 8);
        x.salt(2, 999);
        x.set(2, 1, 90);
        // SLY: 15 on odd DAYS
        int eaten = x.of(2, 4);
        Due.due("SLY behind 1", x.on(1, 32) - eaten, 15);
        Due.due("SLY behind 2", x.on(2, 32) - eaten, 25);
        Due.due("SLY behind 3", x.on(3, 32) - eaten, 40);
        Due.due("lasts beyond", x.lasts(), 80);
        Due.due("SALT behind 60", x.on(60, 0), 999 - 30 * 25);
        x.plan(0, 0);
        x.plan(0, 0);
        Due.due("two DAYS of a PLAN", x.done(0), 999 - 25);
    }

    private static void lastsUpTo99() {
        SaltPeace x = empty(new SaltPeace());
        int[][] saltLasts = {{0, 1}, {1, 1}, {2, 2}, {98, 98}, {99, 99}, {100, FIVE}, {999, FIVE}};
        for (int[] each : saltLasts) {
            x.salt(5, each[0]);
            Due.due("lasts by " + each[0], x.lasts(), each[1]);
        }
        Due.due("at WAR", atWar(0, 0, 0).lasts(), 0);
        Due.due("at WAR with nobody", atWar().lasts(), 0);
    }

    private static void thinnestOfSeveral() {
        SaltPeace x = Due.under("rain 9");
        for (int side = 5; side >= 0; side--) {
            x.salt(side, 50);
            Due.due("HOLLOW, the first", x.hollow(), side);
            Due.due("THINNEST, the first", x.thinnest(5, 0), side);
            Due.due("how much", x.thinnest(5, 1), 5);
            Due.due("nothing behind 6, the first", x.thinnest(6, 0), side);
            Due.due("nothing behind 60, the first of all", x.thinnest(60, 0), 0);
            Due.due("nothing", x.thinnest(60, 1), 0);
        }
        Due.due("now, how much", x.thinnest(0, 1), 50);
        empty(x);
        Due.due("all empty", x.hollow(), 0);
        x.salt(0, 1);
        Due.due("all but the first", x.hollow(), 1);
    }

    private static void greediestOfSeveral() {
        SaltPeace x = Made.hungry(4, 0, 0, 0, 0, 1, 0, 0, 2, 0, 0, 3, 0, 0, 4, 0, 0, 5);
        Due.due("of several the first", x.greediest(1), 1);
        x.salt(5, 101);
        Due.due("of several in 10", x.greediest(10), 1);
        Due.due("the one who has more in 11", x.greediest(11), 5);
        Due.due("and in 60", x.greediest(60), 5);
        empty(x);
        Due.due("nobody EATS", x.greediest(60), 0);
        Due.due("nobody is there", empty(new SaltPeace()).greediest(60), FIVE);
    }

    private static void forgiveLongerThanAny() {
        // without the GENTLE one 99 DAYS, without the PERSON longer than that
        SaltPeace x = empty(Made.hungry(1, 0, 0, 0, 0, 0));
        x.salt(0, 990);
        Due.due("lasts", x.lasts(), 71);
        Due.due("not by 99 is longer than 99", x.forgive(), 1);
        x.salt(0, 396);
        Due.due("99 is longer than 40", x.forgive(), 1);
        x.salt(0, 999);
        Due.due("of several not by 99 the first", x.forgive(), 0);
        x.salt(5, 1);
        Due.due("not by 99 is no longer than that", x.forgive(), FIVE);
        SaltPeace y = empty(Made.hungry(0, 0, 0, 0, 0, 0, 0, 0, 0));
        y.salt(0, 90);
        Due.due("three alike", y.forgive(), 0);
        Due.due("no longer", empty(Made.hungry(0, 0, 0)).forgive(), FIVE);
        Due.due("nobody", empty(new SaltPeace()).forgive(), FIVE);
        Due.due("WAR", atWar(0, 0, 0, 0, 0, 1).forgive(), FIVE);
    }

    private static void moveLongerThanAny() {
        // at 0 it lasts 99 DAYS, at 1 longer, and so at all others
        SaltPeace x = empty(Made.hungry(0, 0, 4, 4, 0, 0));
        x.salt(0, 990);
        Due.due("not by 99 is longer than 99", x.move(0), 1);
        Due.due("wherever, the first", x.move(1), 0);
        x.set(0, 0, 0);
        Due.due("though it is there", x.move(0), 1);
        Due.due("wherever by 99, the first", x.move(1), 0);
        // rain takes 1 a DAY, and it 10 where it is
        SaltPeace y = Due.under("rain 1;need 99;wrong 99 p=0");
        Due.people(y, 0, 0, 0);
        Due.salts(y, 22, 22, 22, 22, 22, 5);
        Due.due("of several as long the first", y.move(0), 0);
        Due.salts(y, 22, 0, 0, 0, 0, 5);
        Due.due("where the least is lost", y.move(0), 1);
        Due.salts(y, 22, 22, 0, 0, 0, 0);
        Due.due("where another SIDE lasts as long", y.move(0), 0);
        Due.due("at WAR all alike", atWar(0, 0, 5).move(0), 0);
    }

    private static void moveToTheLast() {
        SaltPeace x = empty(Due.under("rain 1;need 1;wrong 12 p=1"));
        Due.people(x, 0, 0, 0, 3, 0, 5);
        x.set(0, 1, 5);
        x.salt(5, 31);
        // the SLY one has 12 more on the second DAY, too, as 20 are left; there the PERSON leaves less, and less is wanted
        Due.due("lasts", x.lasts(), 7);
        Due.due("the last SIDE alone", x.move(0), 5);
        x.set(0, 0, 5);
        Due.due("lasts there", x.lasts(), 14);
        Due.due("it is there", x.move(0), 5);
    }

    private static void roofLongerThanAny() {
        SaltPeace x = Due.under("rain 1;need 99;wrong 99 p<9");
        Due.people(x, 0, 0, 1);
        Due.salts(x, 0, 990, 90, 0, 0, 0);
        // under a ROOF 1 lasts 99 DAYS, 2 for ever
        Due.due("lasts", x.lasts(), 90);
        Due.due("not by 99 is longer than 99", x.roofs(), 2);
        x.roof(2, true);
        Due.due("not by 99 is no longer than that", x.roofs(), FIVE);
        x.roof(2, false);
        x.salt(2, 0);
        Due.due("99 is longer than 90", x.roofs(), 1);
        x.roof(1, true);
        Due.due("it has a ROOF", x.roofs(), FIVE);
        SaltPeace y = Due.under("rain 9");
        for (int side = 0; side < 6; side++) {
            Due.due("of several without one the first", y.roofs(), side == 0 ? 0 : FIVE);
            y.roof(side, true);
        }
        Due.due("all have one", y.roofs(), FIVE);
        SaltPeace z = empty(Due.under("rain 9"));
        z.roof(0, true);
        z.salt(4, 9);
        z.salt(5, 9);
        Due.due("one ROOF is of no use", z.roofs(), 4);
        Due.due("nothing to keep", empty(Due.under("rain 9")).roofs(), FIVE);
        Due.due("at WAR", atWar().roofs(), FIVE);
    }

    private static void fraction(String of, long above, long below, long wantAbove, long wantBelow) {
        Due.due(of + ", above", above, wantAbove);
        Due.due(of + ", below", below, wantBelow);
    }

    private static void shareOfNothing() {
        SaltPeace x = Made.hungry(4, 0, 0, 0, 0, 1, 1, 0, 2, 2, 1, 3, 1, 0, 4, 2, 9, 5);
        fraction("none of it", x.share(0, 1, 0), x.share(0, 1, 1), 0, 1);
        fraction("10 of 58", x.share(1, 1, 0), x.share(1, 1, 1), 5, 29);
        fraction("28 of 58", x.share(5, 1, 0), x.share(5, 1, 1), 14, 29);
        fraction("no DAYS", x.share(1, 0, 0), x.share(1, 0, 1), NO, NO);
        fraction("60 DAYS", x.share(5, 60, 0), x.share(5, 60, 1), 1, 5);
        empty(x);
        x.salt(5, 1);
        fraction("all of it", x.share(5, 60, 0), x.share(5, 60, 1), 1, 1);
        fraction("none of 1", x.share(1, 60, 0), x.share(1, 60, 1), 0, 1);
        x.salt(5, 0);
        fraction("nothing there", x.share(5, 60, 0), x.share(5, 60, 1), NO, NO);
    }

    private static void angryAtTheEdges() {
        SaltPeace x = new SaltPeace();
        Due.people(x, 0, 0, 0, 0, 0, 0, 0, 0, 0, 0, 0, 0, 0, 0, 0, 0, 0, 0);
        int[] grudges = {0, 1, 50, 98, 99, 49};
        for (int p = 0; p < 6; p++) {
            x.set(p, 1, grudges[p]);
        }
        int[][] those = {{0, 63}, {1, 62}, {2, 60}, {49, 60}, {50, 28}, {51, 24}, {98, 24}, {99, 16}};
        for (int[] each : those) {
            Due.due("ANGRY of " + each[0], x.angry(each[0]), each[1]);
        }
    }

    private static void heldUpTo60() {
        SaltPeace x = Due.under("wrong 1 d=99");
        Due.people(x, 4, 1, 0);
        int[][] grudgeHeld = {{0, 0}, {1, 1}, {59, 59}, {60, 60}, {61, FIVE}, {99, FIVE}};
        for (int[] each : grudgeHeld) {
            x.set(0, 1, each[0]);
            Due.due("HELD at " + each[0], x.held(0), each[1]);
        }
        // it is 0 now, though it rises
        SaltPeace y = Due.under("wrong 9 p<9");
        Due.people(y, 0, 0, 0);
        Due.due("now", y.held(0), 0);
        y.set(0, 1, 1);
        Due.due("it rises", y.held(0), FIVE);
    }

    private static void worstUpTo60() {
        SaltPeace x = Due.under("wrong 1 p=0;calm 1 p=1");
        Due.people(x, 0, 0, 0, 0, 0, 0, 4, 0, 0);
        x.salt(0, 0);
        int[][] grudgeMuchWhen = {{0, 60, 60}, {38, 98, 60}, {39, 99, 60}, {40, 99, 59}, {98, 99, 1}, {99, 99, 0}};
        for (int[] each : grudgeMuchWhen) {
            x.set(0, 1, each[0]);
            Due.due("WORST from " + each[0], x.worst(0, 0), each[1]);
            Due.due("WORST from " + each[0] + ", when", x.worst(0, 1), each[2]);
        }
        x.set(1, 1, 7);
        Due.due("it falls", x.worst(1, 0), 7);
        Due.due("it falls, when", x.worst(1, 1), 0);
        Due.due("it is 0 always", x.worst(2, 0), 0);
        Due.due("it is 0 always, when", x.worst(2, 1), 0);
        SaltPeace y = Due.under("wrong 5 d=2|d=5;calm 5 d=4");
        Due.people(y, 4, 0, 0);
        y.pass(1);
        // 2 behind 2, 0 behind 4, 2 behind 5: in each ten DAYS 2 more, and that twice
        Due.due("of several", y.worst(0, 0), 12);
        Due.due("of several the first", y.worst(0, 1), 52);
    }

    private static void watchOfSeveral() {
        SaltPeace x = Made.hungry(4, 0, 0);
        SaltPeace y = Made.hungry(0, 0, 5, 0, 0, 4);
        for (int k = 1; k <= 6; k++) {
            Due.due("nothing is taken: the least of " + k, x.watch(k, 0), (1 << k) - 1);
            Due.due("nothing is taken, how much " + k, x.watch(k, 1), 0);
            int least = k == 1 ? 16 : 48 | (1 << k - 2) - 1;
            Due.due("two as thin: the least of " + k, y.watch(k, 0), least);
            Due.due("two as thin, how much " + k, y.watch(k, 1), k == 1 ? 10 : 20);
        }
        for (int side = 0; side < 5; side++) {
            y.set(1, 0, side);
            Due.due("the least as bits " + side, y.watch(1, 0), 1 << side);
            Due.due("both " + side, y.watch(2, 0), 32 | 1 << side);
        }
        y.salt(4, 9);
        Due.due("one less there", y.watch(1, 0), 32);
        Due.due("one less there, how much", y.watch(1, 1), 10);
    }

    private static void fillUpTo990() {
        SaltPeace x = empty(Due.under("rain 99"));
        int[][] nFill = {{1, 100}, {2, 200}, {5, 500}, {9, 900}, {10, FIVE}, {60, FIVE}};
        for (int[] each : nFill) {
            Due.due("FILL of " + each[0], x.fill(each[0], 5), each[1]);
        }
        x.salt(5, 1);
        Due.due("990 of 991", x.fill(10, 5), 990);
        x.salt(5, 99);
        Due.due("just not", x.fill(1, 5), 10);
        x.salt(5, 100);
        Due.due("none needed", x.fill(1, 5), 0);
        SaltPeace y = empty(Due.under("rain 0"));
        Due.due("1 is above 0", y.fill(60, 0), 10);
        y.salt(0, 1);
        Due.due("1 is enough", y.fill(60, 0), 0);
    }

    private static void fillUpTo999() {
        SaltPeace x = Due.under("rain 99");
        x.roof(0, true);
        Due.people(x, 0, 0, 5);
        x.set(0, 1, 4);
        // 8 licked on the first DAY, and 990 by rain in ten
        x.salt(5, 989);
        Due.due("999 of 989 and 10", x.fill(10, 5), 10);
        x.salt(5, 998);
        Due.due("999 of 998 and 10", x.fill(10, 5), 10);
        x.salt(5, 999);
        Due.due("999 now", x.fill(10, 5), 0);
        Due.due("999 are too few", x.fill(11, 5), FIVE);
        x.set(0, 1, 5);
        Due.due("10 licked of 999", x.fill(10, 5), FIVE);
    }

    private static void seenNowAndBehind20() {
        SaltPeace x = Due.under("rain 1");
        Due.people(x, 4, 0, 0);
        int[][] saltNIs = {{100, 0, 1}, {99, 0, 0}, {99, 1, 1}, {81, 19, 1}, {80, 20, 1}, {79, 20, 0}, {81, 20, 0}};
        for (int[] each : saltNIs) {
            x.see(-1, 0, 0);
            Due.due("SEEN", x.see(5, each[0], each[1]), 1);
            Due.due("WHO of " + each[0] + " behind " + each[1], x.who(), each[2]);
            Due.due("WHERE of " + each[0] + " behind " + each[1], x.where(0), each[2] * 63);
            Due.due("FIRM of " + each[0] + " behind " + each[1], x.firm(0, 0), each[2] * 10);
        }
        x.see(-1, 0, 0);
        x.salt(0, 0);
        x.salt(1, 999);
        x.roof(1, true);
        x.see(0, 0, 0);
        x.see(0, 0, 20);
        x.see(1, 999, 0);
        x.see(1, 999, 20);
        Due.due("the fifth", x.see(5, 80, 20), 5);
        Due.due("all five are so", x.who(), 1);
        x.salt(5, 99);
        Due.due("the fifth is not", x.who(), 0);
    }

    private static void seenOnALaterDay() {
        SaltPeace x = Due.under("rain 1");
        Due.people(x, 4, 0, 0);
        x.pass(7);
        x.see(5, 93, 0);
        x.see(5, 73, 20);
        Due.due("from DAY 7 on", x.who(), 1);
        x.see(-1, 0, 0);
        x.see(5, 85, 1);
        Due.due("not yet", x.who(), 0);
        x.pass(7);
        Due.due("from DAY 14 on", x.who(), 1);
        x.pass(1);
        Due.due("no more", x.who(), 0);
    }

    private static void whoOfNobodyAndOfSix() {
        Due.due("nobody", new SaltPeace().who(), 0);
        SaltPeace x = Made.hungry(4, 0, 0, 0, 0, 0, 1, 0, 0, 0, 0, 0, 2, 0, 0, 4, 0, 0);
        Due.due("nothing is SEEN", x.who(), 63);
        x.see(0, 66, 1);
        Due.due("those who take nothing", x.who(), 33);
        x.see(-1, 0, 0);
        x.see(0, 76, 1);
        Due.due("those who take 10", x.who(), 26);
        x.see(0, 42, 2);
        Due.due("not so behind 2", x.who(), 0);
        x.see(-1, 0, 0);
        x.see(0, 70, 1);
        Due.due("the GENTLE one alone", x.who(), 4);
    }

    private static void firmOfTheLeastAndTheGreatest() {
        SaltPeace x = Made.hungry(2, 5, 0);
        int[][] saltManyLeast = {{90, 1, 0}, {88, 1, 1}, {72, 1, 9}, {91, 0, FIVE}, {89, 0, FIVE}, {70, 0, FIVE}};
        for (int[] each : saltManyLeast) {
            x.see(-1, 0, 0);
            x.see(0, each[0], 1);
            Due.due("FIRM of " + each[0], x.firm(0, 0), each[1]);
            Due.due("FIRM of " + each[0] + ", the least", x.firm(0, 1), each[2]);
        }
        x.see(-1, 0, 0);
        x.salt(0, 12);
        x.see(0, 0, 1);
        Due.due("nine of them", x.firm(0, 0), 9);
        Due.due("nine of them, the least", x.firm(0, 1), 1);
        Due.due("its v stays", x.of(0, 1), 5);
    }

    private static void whereAtTheFirstAndTheLast() {
        SaltPeace x = Made.hungry(0, 0, 2);
        for (int side = 0; side < 6; side++) {
            x.see(-1, 0, 0);
            x.see(side, 90, 1);
            Due.due("there", x.where(0), 1 << side);
            x.see(side, 0, 20);
            Due.due("there behind 20", x.where(0), 1 << side);
            x.see(side, 100, 0);
            Due.due("there now", x.where(0), 1 << side);
            x.see(side, 99, 0);
            Due.due("nowhere", x.where(0), 0);
        }
        Due.due("its SIDE stays", x.of(0, 2), 2);
    }

    private static void oddsUpTo99() {
        SaltPeace x = empty(Made.hungry(0, 0, 0, 4, 0, 0));
        x.salt(0, 980);
        fraction("98 behind 97", x.odds(97, 0), x.odds(97, 1), 1, 1);
        fraction("98 behind 98", x.odds(98, 0), x.odds(98, 1), 1, 2);
        x.salt(0, 990);
        fraction("99 behind 98", x.odds(98, 0), x.odds(98, 1), 1, 1);
        fraction("99 behind 99", x.odds(99, 0), x.odds(99, 1), 1, 2);
        x.salt(0, 999);
        fraction("100 behind 99", x.odds(99, 0), x.odds(99, 1), 1, 1);
        fraction("now", x.odds(0, 0), x.odds(0, 1), 1, 1);
        SaltPeace war = atWar(0, 0, 0, 0, 0, 1);
        fraction("WAR now", war.odds(0, 0), war.odds(0, 1), 0, 1);
        fraction("WAR behind 99", war.odds(99, 0), war.odds(99, 1), 0, 1);
        fraction("nobody", atWar().odds(0, 0), atWar().odds(0, 1), NO, NO);
        SaltPeace six = empty(Made.hungry(0, 0, 0, 4, 0, 0, 4, 0, 0, 4, 0, 0, 4, 0, 0, 4, 0, 0));
        six.salt(0, 10);
        fraction("one of six", six.odds(1, 0), six.odds(1, 1), 1, 6);
    }

    private static void meanInLowestTerms() {
        SaltPeace x = new SaltPeace();
        fraction("nobody", x.mean(0, 0), x.mean(0, 1), NO, NO);
        int[] alls = {7, 7, 7, 7, 14, 21};
        int[][] means = {{7, 1}, {7, 2}, {7, 3}, {7, 4}, {14, 5}, {7, 2}};
        for (int p = 0; p < 6; p++) {
            Due.due("comes", x.person(4, 0, 0), p);
            x.set(0, 1, alls[p]);
            fraction("of " + (p + 1), x.mean(0, 0), x.mean(0, 1), means[p][0], means[p][1]);
        }
        for (int p = 0; p < 6; p++) {
            x.set(p, 1, 99);
        }
        fraction("all", x.mean(60, 0), x.mean(60, 1), 99, 1);
        for (int p = 0; p < 6; p++) {
            x.set(p, 1, 0);
        }
        fraction("none", x.mean(60, 0), x.mean(60, 1), 0, 1);
    }

    private static void chipsOfWhatThereIs() {
        SaltPeace x = Due.under("rain 99");
        Due.salts(x, 0, 98, 99, 100, 999, 999);
        x.roof(5, true);
        Due.due("1", x.chips(1), 98 + 99 + 99 + 99);
        Due.due("2", x.chips(2), 98 + 99 + 100 + 198);
        Due.due("10", x.chips(10), 98 + 99 + 100 + 990);
        Due.due("11", x.chips(11), 98 + 99 + 100 + 999);
        Due.due("60", x.chips(60), 98 + 99 + 100 + 999);
        Due.due("nothing there", empty(new SaltPeace()).chips(60), 0);
        Due.due("at WAR", atWar().chips(60), 0);
        SaltPeace y = Due.under("rain 7;need 99;wrong 99 p<9");
        Due.people(y, 0, 0, 2);
        Due.salts(y, 0, 0, 12, 0, 0, 0);
        Due.due("what is left", y.chips(60), 2);
    }

    private static void planOf8() {
        SaltPeace x = Due.under("rain 1");
        Due.people(x, 4, 0, 0, 4, 0, 0);
        Due.due("no rows", x.done(0), 600);
        Due.due("no rows, GRUDGE", x.done(1), 0);
        for (int i = 1; i <= 8; i++) {
            Due.due("a row", x.plan(0, i % 2 == 0 ? Integer.MIN_VALUE : Integer.MAX_VALUE), i);
            Due.due("DAYS " + i, x.done(0), 600 - 6 * i);
        }
        Due.due("none", x.plan(-1, Integer.MIN_VALUE), 0);
        Due.due("none, SALT", x.done(0), 600);
        int[] salts = {978, 979, 980, 999};
        for (int salt : salts) {
            x.salt(5, salt);
            x.plan(2, 5);
            Due.due("20 more than " + salt, x.done(0), 500 + Math.min(999, salt + 20));
            x.plan(-1, 0);
        }
        x.set(0, 1, 99);
        x.set(1, 1, 9);
        x.plan(3, 1);
        Due.due("of one", x.done(1), 99);
        x.plan(3, 0);
        Due.due("of both", x.done(1), 0);
        x.plan(-1, 0);
        // a ROOF comes with its row, not ahead
        x.plan(0, 0);
        x.plan(1, 5);
        x.plan(1, 5);
        x.plan(0, 0);
        Due.due("a ROOF behind a DAY", x.done(0), 1499 - 6 - 5);
    }

    private static void bookOf8() {
        SaltPeace x = new SaltPeace();
        Due.salts(x, 0, 1, 2, 3, 998, 999);
        int[] salts = {0, 1, 2, 3, 998, 999};
        Due.due("no BOOK", x.looked(), FIVE);
        for (int i = 0; i < 8; i++) {
            Due.due("a row", x.book(i % 6, salts[i % 6]), i + 1);
            Due.due("all as it is " + i, x.looked(), FIVE);
        }
        for (int side = 5; side >= 0; side--) {
            x.salt(side, side == 5 ? 998 : salts[side] + 1);
            Due.due("the first is at " + side, x.looked(), side);
        }
        Due.due("none", x.book(-1, Integer.MAX_VALUE), 0);
        Due.due("nothing to look at", x.looked(), FIVE);
        for (int i = 0; i < 7; i++) {
            x.book(5, 998);
        }
        x.book(5, 999);
        Due.due("the last", x.looked(), 7);
    }

    private static void clearedWhateverTheOthersAre() {
        int[] others = {Integer.MIN_VALUE, -1, 0, 5, 6, 20, 21, 999, 1000, Integer.MAX_VALUE};
        for (int other : others) {
            for (int another : others) {
                SaltPeace x = Made.full();
                Due.due("none SEEN by " + other + " " + another, x.see(-1, other, another), 0);
                Due.due("SEEN then", x.count(2), 0);
            }
            SaltPeace x = Made.full();
            Due.due("no PLAN by " + other, x.plan(-1, other), 0);
            Due.due("no BOOK by " + other, x.book(-1, other), 0);
            Due.due("PLAN then", x.count(3), 0);
            Due.due("BOOK then", x.count(4), 0);
            Due.due("the first row again", x.plan(0, other), 1);
        }
    }
}
