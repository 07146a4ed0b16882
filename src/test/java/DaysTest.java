/** Promises 12 to 19: on, lasts, hollow, thinnest, greediest, forgive, move, roofs. */
public final class DaysTest {
    public static void main(String[] args) {
        on();
        onRefusals();
        lasts();
        hollow();
        thinnest();
        greediest();
        forgive();
        move();
        moveChangesAnger();
        roofs();
        Due.end("DaysTest");
    }

    /** They lick as much as they may, but the SALT is still to be told. */
    private static SaltPeace hungryWithout(int... kindVSide) {
        SaltPeace x = Made.hungry(kindVSide);
        Due.salts(x, 0, 0, 0, 0, 0, 0);
        return x;
    }

    private static void on() {
        SaltPeace x = Due.under("rain 3;need 2;wrong 20 p<9");
        Due.people(x, 0, 0, 0, 0, 0, 0);
        x.salt(0, 15);
        Due.due("SALT on 0", x.on(0, 0), 515);
        Due.due("SALT on 1", x.on(1, 0), 485);
        Due.due("GRUDGE of all on 1", x.on(1, 1), 33);
        Due.due("SALT of 0 on 1", x.on(1, 10), 0);
        Due.due("SALT of 5 on 1", x.on(1, 15), 97);
        Due.due("GRUDGE of 0 on 1", x.on(1, 20), 15);
        Due.due("GRUDGE of 1 on 1", x.on(1, 21), 18);
        Due.due("EATEN of 0 on 1", x.on(1, 30), 10);
        Due.due("EATEN of 1 on 1", x.on(1, 31), 5);
        Due.due("SALT on 60", x.on(60, 0), 0);
        Due.due("nothing is changed: DAY", x.told(0), 0);
        Due.due("nothing is changed: SALT", x.told(4), 515);
        Due.due("nothing is changed: GRUDGE", x.told(5), 0);
        Due.due("nothing is changed: WAR", x.told(3), 0);
        x.pass(1);
        Due.due("EATEN in all", x.on(0, 30), 10);
    }

    private static void onRefusals() {
        SaltPeace x = new SaltPeace();
        Due.people(x, 0, 0, 0);
        int[] none = {-1, 2, 9, 16, 19, 21, 26, 29, 31, 36, Integer.MIN_VALUE, Integer.MAX_VALUE};
        for (int what : none) {
            Due.due("what " + what, x.on(0, what), SaltPeace.NONE);
            Due.due("what ahead of n " + what, x.on(61, what), SaltPeace.NONE);
        }
        int[] whats = {0, 1, 10, 15, 20, 30};
        for (int what : whats) {
            Due.due("n 61 " + what, x.on(61, what), SaltPeace.BAD);
            Due.due("n -1 " + what, x.on(-1, what), SaltPeace.BAD);
        }
    }

    private static void lasts() {
        SaltPeace x = new SaltPeace();
        Due.salts(x, 0, 0, 99, 3, 0, 0);
        Due.due("99 DAYS", x.lasts(), 99);
        x.salt(2, 100);
        Due.due("not by 99", x.lasts(), -5);
        x.salt(2, 0);
        Due.due("3 DAYS", x.lasts(), 3);
        x.roof(3, true);
        Due.due("under a ROOF", x.lasts(), -5);
        x.roof(3, false);
        x.salt(3, 0);
        Due.due("a DAY, if all is empty", x.lasts(), 1);
        Due.due("nothing is changed", x.told(3), 0);
        x.pass(1);
        x.salt(0, 999);
        Due.due("it is WAR", x.lasts(), 0);
    }

    private static void hollow() {
        SaltPeace x = new SaltPeace();
        Due.due("all alike", x.hollow(), 0);
        for (int side = 0; side < 6; side++) {
            x.salt(side, 99);
            Due.due("the least " + side, x.hollow(), side);
            x.salt(side, 100);
        }
        x.salt(5, 99);
        Due.due("the least", x.hollow(), 5);
        x.salt(3, 99);
        Due.due("of several the first", x.hollow(), 3);
        x.salt(4, 0);
        Due.due("nothing", x.hollow(), 4);
    }

    private static void thinnest() {
        SaltPeace x = Due.under("rain 10");
        Due.salts(x, 50, 90, 45, 60, 60, 60);
        x.roof(2, true);
        Due.due("now", x.thinnest(0, 0), 2);
        Due.due("now, how much", x.thinnest(0, 1), 45);
        Due.due("behind 1", x.thinnest(1, 0), 0);
        Due.due("behind 1, how much", x.thinnest(1, 1), 40);
        Due.due("behind 60", x.thinnest(60, 0), 0);
        Due.due("behind 60, how much", x.thinnest(60, 1), 0);
        Due.due("n 61", x.thinnest(61, 0), SaltPeace.BAD);
        Due.due("n -1", x.thinnest(-1, 1), SaltPeace.BAD);
        Due.due("what 2", x.thinnest(61, 2), SaltPeace.NONE);
        Due.due("what -1", x.thinnest(0, -1), SaltPeace.NONE);
    }

    private static void greediest() {
        SaltPeace x = hungryWithout(0, 0, 0, 2, 1, 1, 2, 0, 2);
        Due.due("nobody EATS: the first", x.greediest(1), 0);
        Due.salts(x, 999, 15, 100, 0, 0, 0);
        Due.due("on the first DAY", x.greediest(1), 1);
        Due.due("in 2, of several the first", x.greediest(2), 0);
        Due.due("in 60", x.greediest(60), 0);
        Due.due("n 0", x.greediest(0), SaltPeace.BAD);
        Due.due("n 61", x.greediest(61), SaltPeace.BAD);
        Due.due("nobody there", new SaltPeace().greediest(1), -5);
        Due.due("nobody there, n 0", new SaltPeace().greediest(0), SaltPeace.BAD);
        // what was EATEN before does not count
        x.salt(1, 999);
        x.pass(20);
        Due.salts(x, 999, 0, 999, 0, 0, 0);
        Due.due("in these alone", x.greediest(1), 0);
    }

    private static void forgive() {
        SaltPeace x = hungryWithout(0, 0, 0, 2, 5, 0);
        x.salt(0, 100);
        Due.due("lasts", x.lasts(), 4);
        Due.due("the one who EATS more", x.forgive(), 1);
        x.salt(0, 30);
        Due.due("lasts one DAY", x.lasts(), 1);
        Due.due("3 DAYS, not 2", x.forgive(), 1);
        x.salt(0, 10);
        Due.due("not longer", x.forgive(), -5);
        SaltPeace two = hungryWithout(0, 0, 0, 0, 3, 0);
        two.salt(0, 100);
        Due.due("of several the first", two.forgive(), 0);
        SaltPeace one = hungryWithout(0, 0, 0);
        one.salt(0, 100);
        Due.due("longer than any", one.forgive(), 0);
        one.salt(1, 1);
        Due.due("it lasts already", one.forgive(), -5);
        Due.due("nothing is changed", one.of(0, 7), 0);
        one.set(0, 1, 99);
        Due.due("it licks still", one.of(0, 7), 10);
        Due.due("nobody", new SaltPeace().forgive(), -5);
        one.salt(1, 0);
        one.salt(0, 0);
        one.pass(1);
        one.salt(0, 100);
        Due.due("at WAR", one.forgive(), -5);
    }

    private static void move() {
        SaltPeace x = Due.under("rain 5;need 99;wrong 99 p<9");
        Due.people(x, 0, 0, 0);
        Due.salts(x, 50, 30, 0, 0, 0, 0);
        Due.due("lasts", x.lasts(), 6);
        Due.due("where it lasts longest, the first", x.move(0), 1);
        x.set(0, 0, 4);
        Due.due("wherever it is", x.move(0), 1);
        Due.salts(x, 30, 50, 0, 0, 0, 0);
        Due.due("the first SIDE", x.move(0), 0);
        Due.due("nothing is changed", x.of(0, 2), 4);
        Due.due("one 1", x.move(1), SaltPeace.NONE);
        Due.due("one -1", x.move(-1), SaltPeace.NONE);
        SaltPeace y = hungryWithout(0, 0, 3);
        y.salt(0, 100);
        Due.due("never by 99 is longest", y.move(0), 1);
    }

    private static void moveChangesAnger() {
        SaltPeace x = Due.under("rain 1;need 1;wrong 9 s=1|s=2");
        Due.people(x, 0, 0, 2);
        Due.salts(x, 40, 10, 0, 0, 0, 0);
        // at 0 it is not wronged, and so takes nothing there
        Due.due("where it is not wronged", x.move(0), 0);
    }

    private static void roofs() {
        SaltPeace x = Due.under("rain 5;need 99;wrong 99 p<9");
        Due.people(x, 0, 0, 0, 0, 0, 1);
        Due.salts(x, 50, 60, 0, 0, 0, 0);
        Due.due("lasts", x.lasts(), 4);
        Due.due("where it lasts longest", x.roofs(), 1);
        x.salt(1, 50);
        Due.due("of several the first", x.roofs(), 0);
        Due.due("nothing is changed", x.told(6), 0);
        x.salt(1, 60);
        x.roof(1, true);
        Due.due("not longer", x.roofs(), -5);
        SaltPeace y = Due.under("rain 5");
        Due.salts(y, 0, 30, 30, 0, 0, 0);
        Due.due("longer than any", y.roofs(), 1);
        y.roof(1, true);
        Due.due("it lasts already", y.roofs(), -5);
        Due.due("new", new SaltPeace().roofs(), -5);
    }
}
