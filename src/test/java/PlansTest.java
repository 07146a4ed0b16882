/** Promises 33 to 36: plan, done, book, looked. */
public final class PlansTest {
    public static void main(String[] args) {
        plan();
        done();
        book();
        looked();
        Due.end("PlansTest");
    }

    private static void plan() {
        SaltPeace x = new SaltPeace();
        Due.due("none then", x.plan(-1, 99), 0);
        Due.due("what 4", x.plan(4, 0), SaltPeace.NONE);
        Due.due("what -2", x.plan(-2, 0), SaltPeace.NONE);
        Due.due("a ROOF at 6", x.plan(1, 6), SaltPeace.NONE);
        Due.due("a ROOF at -1", x.plan(1, -1), SaltPeace.NONE);
        Due.due("SALT at 6", x.plan(2, 6), SaltPeace.NONE);
        Due.due("SALT at -1", x.plan(2, -1), SaltPeace.NONE);
        Due.due("nobody yet", x.plan(3, 0), SaltPeace.NONE);
        Due.due("a DAY, whatever the number", x.plan(0, -77), 1);
        Due.due("a ROOF", x.plan(1, 5), 2);
        Due.due("SALT", x.plan(2, 5), 3);
        Due.people(x, 0, 0, 0);
        Due.due("one", x.plan(3, 0), 4);
        Due.due("another", x.plan(3, 1), SaltPeace.NONE);
        for (int i = 5; i <= 8; i++) {
            Due.due("row " + i, x.plan(0, i), i);
        }
        Due.due("a ninth", x.plan(0, 0), SaltPeace.FULL);
        Due.due("NONE ahead of FULL", x.plan(4, 0), SaltPeace.NONE);
        Due.due("a SIDE ahead of FULL", x.plan(1, 6), SaltPeace.NONE);
        Due.due("count(3)", x.count(3), 8);
        Due.due("none then", x.plan(-1, 0), 0);
        Due.due("count(3) then", x.count(3), 0);
        Due.due("the first again", x.plan(0, 0), 1);
    }

    private static void done() {
        SaltPeace x = Due.under("rain 10;wrong 3 p<9");
        Due.people(x, 4, 0, 0, 0, 0, 1);
        x.set(0, 1, 50);
        x.set(1, 1, 40);
        Due.due("no PLAN: SALT", x.done(0), 600);
        Due.due("no PLAN: GRUDGE", x.done(1), 90);
        x.plan(2, 3);
        Due.due("20 more", x.done(0), 620);
        x.plan(1, 3);
        Due.due("a ROOF alone", x.done(0), 620);
        x.plan(0, 0);
        // 5 SIDES have rain, PERSON 1 takes 10
        Due.due("a DAY", x.done(0), 620 - 50 - 10);
        // 51 and 43 - 5
        Due.due("a DAY: GRUDGE", x.done(1), 51 + 38);
        x.plan(3, 0);
        Due.due("forgiven", x.done(1), 38);
        x.plan(0, 0);
        Due.due("and risen again", x.done(1), 1 + 36);
        Due.due("what 2", x.done(2), SaltPeace.NONE);
        Due.due("what -1", x.done(-1), SaltPeace.NONE);
        Due.due("nothing is changed: SALT", x.told(4), 600);
        Due.due("nothing is changed: GRUDGE", x.told(5), 90);
        Due.due("nothing is changed: ROOFS", x.told(6), 0);
        Due.due("nothing is changed: DAY", x.told(0), 0);
        x.plan(-1, 0);
        x.salt(3, 990);
        x.plan(2, 3);
        Due.due("999 at most", x.done(0), 500 + 999);
        x.plan(-1, 0);
        Due.treaty(x, "rain 60");
        Due.salts(x, 50, 100, 200, 300, 400, 500);
        x.set(1, 1, 0);
        int[] kept = {50, 60, 60, 60, 60, 60};
        for (int side = 0; side < 6; side++) {
            x.plan(1, side);
            x.plan(0, 0);
            Due.due("a ROOF at " + side, x.done(0), 1200 + kept[side]);
            x.plan(-1, 0);
        }
        Due.due("a third", x.person(4, 0, 0), 2);
        x.set(0, 1, 5);
        x.set(1, 1, 20);
        x.set(2, 1, 70);
        int[] left = {90, 75, 25};
        for (int p = 0; p < 3; p++) {
            x.plan(3, p);
            Due.due("forgiven " + p, x.done(1), left[p]);
            x.plan(-1, 0);
        }
    }

    private static void book() {
        SaltPeace x = new SaltPeace();
        Due.due("none then", x.book(-1, -1), 0);
        Due.due("side 6", x.book(6, 0), SaltPeace.NONE);
        Due.due("side -2", x.book(-2, 0), SaltPeace.NONE);
        Due.due("salt 1000", x.book(0, 1000), SaltPeace.BAD);
        Due.due("salt -1", x.book(0, -1), SaltPeace.BAD);
        Due.due("side ahead of salt", x.book(6, 1000), SaltPeace.NONE);
        for (int i = 1; i <= 8; i++) {
            Due.due("row " + i, x.book(5, 999), i);
        }
        Due.due("a ninth", x.book(0, 0), SaltPeace.FULL);
        Due.due("BAD ahead of FULL", x.book(0, 1000), SaltPeace.BAD);
        Due.due("NONE ahead of FULL", x.book(6, 0), SaltPeace.NONE);
        Due.due("count(4)", x.count(4), 8);
        Due.due("none then", x.book(-1, 1000), 0);
        Due.due("count(4) then", x.count(4), 0);
        Due.due("the first again", x.book(0, 0), 1);
    }

    private static void looked() {
        SaltPeace x = new SaltPeace();
        Due.due("no BOOK", x.looked(), -5);
        x.book(0, 100);
        x.book(5, 100);
        x.book(5, 99);
        Due.due("the third", x.looked(), 2);
        x.salt(5, 99);
        Due.due("the second", x.looked(), 1);
        x.salt(0, 0);
        Due.due("the first", x.looked(), 0);
        x.book(-1, 0);
        x.book(5, 99);
        x.book(0, 0);
        Due.due("all as it is", x.looked(), -5);
        x.pass(1);
        Due.due("behind a DAY", x.looked(), 0);
    }
}
