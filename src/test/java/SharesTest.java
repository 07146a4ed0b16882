/** Promises 20 to 25: share, angry, held, worst, watch, fill. */
public final class SharesTest {
    private static final long NO = SaltPeace.NO;

    public static void main(String[] args) {
        share();
        angry();
        held();
        worst();
        watch();
        watchNextDay();
        fill();
        Due.end("SharesTest");
    }

    private static void fraction(SaltPeace x, int person, int n, long above, long below) {
        Due.due("share " + person + " " + n + " above", x.share(person, n, 0), above);
        Due.due("share " + person + " " + n + " below", x.share(person, n, 1), below);
    }

    private static void share() {
        SaltPeace x = Made.hungry(0, 0, 0, 2, 5, 1, 4, 0, 2);
        fraction(x, 0, 1, 1, 3);
        fraction(x, 1, 1, 2, 3);
        fraction(x, 2, 1, 0, 1);
        // 100 and 100 by 60 DAYS
        fraction(x, 0, 60, 1, 2);
        fraction(x, 0, 7, 7, 17);
        fraction(x, 0, 0, NO, NO);
        x.pass(4);
        // 10 and 20, whatever was EATEN before
        fraction(x, 0, 1, 1, 3);
        fraction(x, 3, 1, NO, NO);
        fraction(x, -1, 1, NO, NO);
        fraction(x, 0, 61, NO, NO);
        fraction(x, 0, -1, NO, NO);
        Due.due("part 2", x.share(0, 1, 2), NO);
        Due.due("part -1", x.share(0, 1, -1), NO);
        SaltPeace alone = Made.hungry(0, 0, 0);
        fraction(alone, 0, 9, 1, 1);
        Due.salts(alone, 0);
        fraction(alone, 0, 60, NO, NO);
    }

    private static void angry() {
        SaltPeace x = new SaltPeace();
        Due.people(x, 0, 0, 0, 1, 0, 0, 2, 0, 0);
        x.set(0, 1, 99);
        x.set(2, 1, 40);
        Due.due("0", x.angry(0), 7);
        Due.due("1", x.angry(1), 5);
        Due.due("40", x.angry(40), 5);
        Due.due("41", x.angry(41), 1);
        Due.due("99", x.angry(99), 1);
        Due.due("100", x.angry(100), SaltPeace.BAD);
        Due.due("-1", x.angry(-1), SaltPeace.BAD);
        Due.due("nobody", new SaltPeace().angry(0), 0);
    }

    private static void held() {
        SaltPeace x = Due.under("calm 10 p=0;wrong 1 p=2;calm 1 p=3");
        Due.people(x, 4, 0, 1, 4, 9, 1, 4, 0, 1, 4, 1, 1, 0, 0, 1);
        x.set(0, 1, 35);
        x.set(1, 1, 9);
        x.set(2, 1, 1);
        x.set(3, 1, 60);
        // a MEEK one has the half of ANGER, less v: 35, 30 .. 5, 0
        Due.due("35 by 5", x.held(0), 7);
        Due.due("9 by 9", x.held(1), 1);
        Due.due("never", x.held(2), -5);
        Due.due("60 by 1", x.held(3), 60);
        x.set(3, 1, 61);
        Due.due("61 by 1", x.held(3), -5);
        Due.due("0", x.held(4), 0);
        x.set(4, 1, 9);
        Due.due("by licking", x.held(4), 2);
        Due.due("one 5", x.held(5), SaltPeace.NONE);
        Due.due("one -1", x.held(-1), SaltPeace.NONE);
        Due.due("nothing is changed", x.of(0, 3), 35);
    }

    private static void worst() {
        SaltPeace x = Due.under("wrong 20 d<3;calm 20 d>2");
        Due.people(x, 4, 0, 1, 4, 9, 1);
        x.set(0, 1, 5);
        x.set(1, 1, 99);
        Due.due("how much", x.worst(0, 0), 35);
        Due.due("behind how many, first", x.worst(0, 1), 3);
        Due.due("now", x.worst(1, 0), 99);
        Due.due("behind none but 1", x.worst(1, 1), 0);
        Due.due("what 2", x.worst(0, 2), SaltPeace.NONE);
        Due.due("what -1", x.worst(0, -1), SaltPeace.NONE);
        Due.due("one 2", x.worst(2, 0), SaltPeace.NONE);
        SaltPeace y = Due.under("wrong 2 p<9");
        Due.people(y, 4, 0, 0);
        y.set(0, 1, 38);
        Due.due("60 DAYS on", y.worst(0, 0), 98);
        Due.due("behind 60", y.worst(0, 1), 60);
        y.set(0, 1, 40);
        Due.due("99 behind 59", y.worst(0, 1), 59);
    }

    private static void watch(SaltPeace x, int k, int which, int much) {
        Due.due("watch " + k, x.watch(k, 0), which);
        Due.due("watch much " + k, x.watch(k, 1), much);
    }

    private static void watch() {
        SaltPeace x = Made.hungry(0, 0, 0, 2, 5, 1, 0, 0, 2, 1, 0, 5);
        watch(x, 1, 2, 20);
        watch(x, 2, 3, 30);
        watch(x, 3, 7, 40);
        watch(x, 4, 39, 44);
        watch(x, 5, 47, 44);
        watch(x, 6, 63, 44);
        Due.due("k 0", x.watch(0, 0), SaltPeace.BAD);
        Due.due("k 7", x.watch(7, 1), SaltPeace.BAD);
        Due.due("what 2", x.watch(1, 2), SaltPeace.NONE);
        Due.due("what -1", x.watch(0, -1), SaltPeace.NONE);
        watch(new SaltPeace(), 3, 7, 0);
        x.set(0, 0, 5);
        x.set(2, 0, 5);
        watch(x, 1, 32, 24);
    }

    private static void watchNextDay() {
        // GRUDGE is 0 now; by the next DAY it has risen. What rain takes does not count.
        SaltPeace x = Due.under("rain 50;need 1;wrong 4 p<9");
        Due.people(x, 0, 0, 3);
        watch(x, 1, 8, 4);
        x.pass(1);
        watch(x, 1, 8, 4);
    }

    private static void fill() {
        SaltPeace x = Due.under("rain 5");
        Due.due("300 and one more", x.fill(60, 0), 210);
        Due.due("none needed", x.fill(19, 0), 0);
        Due.due("not 0", x.fill(20, 0), 10);
        x.roof(0, true);
        Due.due("under a ROOF", x.fill(60, 0), 0);
        x.salt(0, 0);
        Due.due("empty under a ROOF", x.fill(60, 0), 10);
        Due.due("side 6", x.fill(0, 6), SaltPeace.NONE);
        Due.due("side -1", x.fill(1, -1), SaltPeace.NONE);
        Due.due("n 0", x.fill(0, 0), SaltPeace.BAD);
        Due.due("n 1", x.fill(1, 1), 0);
        Due.due("n 61", x.fill(61, 0), SaltPeace.BAD);
        Due.due("nothing is changed", x.told(10), 0);
        x.salt(1, 96);
        Due.due("1 is above 0", x.fill(19, 1), 0);
        Due.due("by 10 to 1", x.fill(21, 1), 10);
        SaltPeace y = Due.under("rain 37");
        y.salt(2, 985);
        Due.due("999 at most", y.fill(27, 2), -5);
        Due.due("26 of 37 are 962", y.fill(26, 2), 0);
        y.salt(2, 5);
        Due.due("962", y.fill(26, 2), 960);
        SaltPeace z = Due.under("rain 99");
        z.salt(2, 5);
        Due.due("990", z.fill(10, 2), 990);
        z.salt(2, 0);
        Due.due("990 is too little", z.fill(10, 2), -5);
    }
}
