/** Promises 4 to 11: person, of, row, set, salt, roof, told, pass. */
public final class BlockTest {
    public static void main(String[] args) {
        people();
        rises();
        proudTwice();
        slyWhereThin();
        licks();
        takes();
        rows();
        rowsAhead();
        sets();
        salts();
        roofs();
        told();
        dayByNumbers();
        grudgeBounds();
        rainAndRoofs();
        warStays();
        passBounds();
        eatenAtMost();
        Due.end("BlockTest");
    }

    private static void people() {
        SaltPeace x = new SaltPeace();
        Due.due("kind 7", x.person(7, 0, 0), SaltPeace.NONE);
        Due.due("kind -1", x.person(-1, 0, 0), SaltPeace.NONE);
        Due.due("side 6", x.person(0, 0, 6), SaltPeace.NONE);
        Due.due("side -1", x.person(0, 0, -1), SaltPeace.NONE);
        Due.due("v 10", x.person(0, 10, 0), SaltPeace.BAD);
        Due.due("v -1", x.person(0, -1, 0), SaltPeace.BAD);
        Due.due("kind ahead of v", x.person(7, 10, 0), SaltPeace.NONE);
        Due.due("nobody yet", x.count(0), 0);
        Due.people(x, 6, 9, 5, 0, 0, 0, 1, 1, 1, 2, 2, 2, 3, 3, 3, 4, 4, 4);
        Due.due("a seventh", x.person(5, 5, 5), SaltPeace.FULL);
        Due.due("v ahead of FULL", x.person(5, 10, 5), SaltPeace.BAD);
        Due.due("side ahead of FULL", x.person(5, 5, 6), SaltPeace.NONE);
        Due.due("KIND", x.of(0, 0), 6);
        Due.due("v", x.of(0, 1), 9);
        Due.due("SIDE", x.of(0, 2), 5);
        Due.due("GRUDGE", x.of(0, 3), 0);
        Due.due("EATEN", x.of(0, 4), 0);
        Due.due("KIND of the last", x.of(5, 0), 4);
        Due.due("what -1", x.of(0, -1), -10001);
        Due.due("what 8", x.of(0, 8), -10001);
        Due.due("one 6", x.of(6, 0), -10001);
        Due.due("one -1", x.of(-1, 0), -10001);
    }

    private static void rises() {
        SaltPeace x = Due.under("wrong 9 p<9;calm 2 v>3");
        Due.people(x, 0, 3, 0, 1, 3, 0, 2, 3, 0, 3, 3, 0, 4, 3, 0, 5, 3, 0);
        Due.due("PERSON", x.of(0, 5), 9);
        Due.due("GENTLE", x.of(1, 5), 4);
        Due.due("BITTER", x.of(2, 5), 12);
        Due.due("SLY", x.of(3, 5), 9);
        Due.due("MEEK", x.of(4, 5), 1);
        Due.due("PROUD", x.of(5, 5), 24);
        SaltPeace y = Due.under("calm 9 p<9");
        Due.people(y, 0, 3, 0, 1, 3, 0, 2, 3, 0, 3, 3, 0, 4, 3, 0, 6, 3, 0);
        y.row(5, 0, 2);
        Due.due("PERSON below 0", y.of(0, 5), -9);
        Due.due("GENTLE cut toward 0", y.of(1, 5), -4);
        Due.due("BITTER below 0", y.of(2, 5), -6);
        Due.due("SLY below 0", y.of(3, 5), -9);
        Due.due("MEEK below 0", y.of(4, 5), -7);
        Due.due("TOLD below 0", y.of(5, 5), -7);
    }

    private static void proudTwice() {
        SaltPeace x = Due.under("wrong 5 p<9;rain 0");
        Due.people(x, 5, 0, 0, 5, 1, 0, 5, 3, 0, 5, 9, 0);
        for (int day = 0; day <= 34; day++) {
            Due.due("PROUD 0 on " + day, x.of(0, 5), day % 2 == 0 ? 10 : 5);
            Due.due("PROUD 1 on " + day, x.of(1, 5), day % 3 == 0 ? 12 : 6);
            Due.due("PROUD 3 on " + day, x.of(2, 5), day % 5 == 0 ? 16 : 8);
            Due.due("PROUD 9 on " + day, x.of(3, 5), day % 11 == 0 ? 28 : 14);
            x.pass(1);
        }
    }

    private static void slyWhereThin() {
        SaltPeace x = Due.under("wrong 8 p<9");
        Due.people(x, 3, 1, 2, 6, 1, 2, 0, 1, 2);
        x.row(1, 0, 5);
        x.salt(2, 20);
        Due.due("SLY at 20", x.of(0, 5), 8);
        Due.due("TOLD at 20", x.of(1, 5), 13);
        x.salt(2, 19);
        Due.due("SLY at 19", x.of(0, 5), 0);
        Due.due("TOLD at 19", x.of(1, 5), 5);
        Due.due("PERSON at 19", x.of(2, 5), 8);
        x.set(0, 0, 3);
        Due.due("SLY at another SIDE", x.of(0, 5), 8);
    }

    private static void licks() {
        SaltPeace x = new SaltPeace();
        Due.people(x, 0, 4, 0, 1, 4, 0, 2, 4, 0, 3, 4, 0, 4, 4, 0, 5, 4, 0);
        int[] even = {10, 4, 18, 10, 0, 18};
        for (int p = 0; p < 6; p++) {
            Due.due("LICKS of " + p, x.of(p, 6), even[p]);
        }
        x.set(5, 1, 80);
        Due.due("PROUD at 80", x.of(5, 6), 18);
        x.set(5, 1, 81);
        Due.due("PROUD at 81", x.of(5, 6), 0);
        x.set(2, 1, 99);
        Due.due("BITTER at 99", x.of(2, 6), 18);
        x.pass(1);
        Due.due("SLY on DAY 1", x.of(3, 6), 15);
        Due.due("PERSON on DAY 1", x.of(0, 6), 10);
        x.pass(1);
        Due.due("SLY on DAY 2", x.of(3, 6), 10);
        for (int day = 3; day <= 12; day++) {
            x.pass(1);
            Due.due("SLY on DAY " + day, x.of(3, 6), day % 2 == 0 ? 10 : 15);
        }
        SaltPeace y = new SaltPeace();
        Due.people(y, 6, 9, 0);
        Due.due("TOLD", y.of(0, 6), 10);
        y.pass(1);
        Due.due("TOLD on DAY 1", y.of(0, 6), 15);
    }

    private static void takes() {
        SaltPeace x = Due.under("need 3");
        Due.people(x, 0, 0, 1);
        Due.due("no GRUDGE", x.of(0, 7), 0);
        x.set(0, 1, 2);
        Due.due("GRUDGE times NEED", x.of(0, 7), 6);
        x.set(0, 1, 50);
        Due.due("as much as it LICKS", x.of(0, 7), 10);
        x.salt(1, 4);
        Due.due("SALT of its SIDE", x.of(0, 7), 4);
        x.salt(1, 0);
        Due.due("no SALT", x.of(0, 7), 0);
    }

    private static void rows() {
        SaltPeace x = new SaltPeace();
        Due.people(x, 6, 0, 0, 3, 0, 0, 6, 0, 0);
        Due.due("one 3", x.row(3, 0, 0), SaltPeace.NONE);
        Due.due("one -1", x.row(-1, 0, 0), SaltPeace.NONE);
        Due.due("k 4", x.row(0, 4, 0), SaltPeace.NONE);
        Due.due("k -1", x.row(0, -1, 0), SaltPeace.NONE);
        Due.due("n 10", x.row(0, 0, 10), SaltPeace.BAD);
        Due.due("n -1", x.row(0, 0, -1), SaltPeace.BAD);
        Due.due("another KIND", x.row(1, 0, 0), SaltPeace.STATE);
        Due.due("n ahead of the KIND", x.row(1, 0, 10), SaltPeace.BAD);
        Due.due("k ahead of n", x.row(1, 4, 10), SaltPeace.NONE);
        for (int k = 0; k < 4; k++) {
            Due.due("row " + k, x.row(0, k, 9 - k), 0);
            Due.due("row of 2 " + k, x.row(2, k, k), 0);
        }
        Due.due("what it was", x.row(0, 3, 0), 6);
        Due.due("what it is", x.row(0, 3, 6), 0);
        for (int day = 0; day < 9; day++) {
            Due.due("ROW of 0 on " + day, x.of(0, 5), 9 - day % 4);
            Due.due("ROW of 2 on " + day, x.of(2, 5), day % 4);
            x.pass(1);
        }
    }

    private static void rowsAhead() {
        SaltPeace x = Due.under("rain 0");
        Due.people(x, 6, 0, 0, 6, 0, 0, 6, 0, 0, 6, 0, 0, 6, 0, 0, 6, 0, 0);
        Due.salts(x, 0);
        for (int p = 0; p < 6; p++) {
            for (int k = 0; k < 4; k++) {
                x.row(p, k, (p + 2 * k) % 10);
            }
        }
        for (int p = 0; p < 6; p++) {
            Due.due("a round of ROWS of " + p, x.on(4, 20 + p), 4 * p + 12 - (p == 4 || p == 5 ? 10 : 0));
            Due.due("one DAY of " + p, x.on(1, 20 + p), p);
        }
    }

    private static void sets() {
        SaltPeace x = new SaltPeace();
        Due.people(x, 0, 0, 3, 1, 1, 1);
        Due.due("one 2", x.set(2, 0, 0), SaltPeace.NONE);
        Due.due("what 2", x.set(0, 2, 0), SaltPeace.NONE);
        Due.due("what -1", x.set(0, -1, 0), SaltPeace.NONE);
        Due.due("SIDE 6", x.set(0, 0, 6), SaltPeace.BAD);
        Due.due("SIDE -1", x.set(0, 0, -1), SaltPeace.BAD);
        Due.due("GRUDGE 100", x.set(0, 1, 100), SaltPeace.BAD);
        Due.due("GRUDGE -1", x.set(0, 1, -1), SaltPeace.BAD);
        Due.due("what ahead of n", x.set(0, 2, 100), SaltPeace.NONE);
        Due.due("SIDE", x.set(0, 0, 5), 3);
        Due.due("SIDE again", x.set(0, 0, 0), 5);
        Due.due("GRUDGE", x.set(0, 1, 99), 0);
        Due.due("GRUDGE again", x.set(0, 1, 7), 99);
        Due.due("of SIDE", x.of(0, 2), 0);
        Due.due("of GRUDGE", x.of(0, 3), 7);
        Due.due("the other's SIDE", x.of(1, 2), 1);
        Due.due("the other's GRUDGE", x.of(1, 3), 0);
    }

    private static void salts() {
        SaltPeace x = new SaltPeace();
        Due.due("side 6", x.salt(6, 0), SaltPeace.NONE);
        Due.due("side -1", x.salt(-1, 0), SaltPeace.NONE);
        Due.due("n 1000", x.salt(0, 1000), SaltPeace.BAD);
        Due.due("n -1", x.salt(0, -1), SaltPeace.BAD);
        Due.due("side ahead of n", x.salt(6, 1000), SaltPeace.NONE);
        Due.due("salt", x.salt(5, 999), 100);
        Due.due("salt again", x.salt(5, 0), 999);
        Due.due("what it is", x.told(15), 0);
        Due.due("SALT of all", x.told(4), 500);
    }

    private static void roofs() {
        SaltPeace x = new SaltPeace();
        Due.due("side 6", x.roof(6, true), SaltPeace.NONE);
        Due.due("side -1", x.roof(-1, false), SaltPeace.NONE);
        Due.due("a ROOF", x.roof(4, true), 0);
        Due.due("it was", x.roof(4, true), 1);
        Due.due("another", x.roof(0, true), 0);
        Due.due("bits", x.told(6), 17);
        Due.due("away", x.roof(4, false), 1);
        Due.due("away already", x.roof(4, false), 0);
        Due.due("bits then", x.told(6), 1);
    }

    private static void told() {
        SaltPeace x = Due.under("rain 7;need 3");
        Due.people(x, 0, 0, 0, 4, 0, 0);
        x.set(0, 1, 30);
        x.set(1, 1, 12);
        Due.due("RAIN", x.told(1), 7);
        Due.due("NEED", x.told(2), 3);
        Due.due("GRUDGE of all", x.told(5), 42);
        Due.due("-1", x.told(-1), SaltPeace.NONE);
        Due.due("7", x.told(7), SaltPeace.NONE);
        Due.due("9", x.told(9), SaltPeace.NONE);
        Due.due("16", x.told(16), SaltPeace.NONE);
        Due.due("MIN", x.told(Integer.MIN_VALUE), SaltPeace.NONE);
        x.pass(2);
        Due.due("DAY", x.told(0), 2);
    }

    private static void dayByNumbers() {
        SaltPeace x = Due.under("rain 3;need 2;wrong 20 p<9");
        Due.people(x, 0, 0, 0, 0, 0, 0);
        x.salt(0, 15);
        Due.due("pass(0)", x.pass(0), 515);
        Due.due("pass(1)", x.pass(1), 485);
        Due.due("SALT of 0", x.told(10), 0);
        Due.due("SALT of 1", x.told(11), 97);
        Due.due("GRUDGE of 0", x.of(0, 3), 15);
        Due.due("GRUDGE of 1, cut", x.of(1, 3), 18);
        Due.due("EATEN of 0", x.of(0, 4), 10);
        Due.due("EATEN of 1", x.of(1, 4), 5);
        Due.due("DAY", x.told(0), 1);
        Due.due("pass(2)", x.pass(2), 455);
        Due.due("EATEN stays", x.of(0, 4), 10);
    }

    private static void grudgeBounds() {
        SaltPeace x = Due.under("wrong 90 p=0;calm 90 p=1;wrong 81 p=2");
        Due.people(x, 4, 0, 0, 4, 0, 0, 5, 0, 0);
        x.set(0, 1, 60);
        x.set(1, 1, 40);
        x.pass(1);
        Due.due("not above 99", x.of(0, 3), 99);
        Due.due("not below 0", x.of(1, 3), 0);
        Due.due("PROUD licks by its GRUDGE then", x.of(2, 3), 99);
        Due.due("PROUD EATEN", x.of(2, 4), 0);
    }

    private static void rainAndRoofs() {
        SaltPeace x = Due.under("rain 30");
        Due.salts(x, 100, 30, 29, 0, 31, 999);
        x.roof(0, true);
        Due.due("pass(1)", x.pass(1), 100 + 1 + 969);
        Due.due("under a ROOF", x.told(10), 100);
        Due.due("not below 0", x.told(12), 0);
        Due.due("one left", x.told(14), 1);
        SaltPeace y = Due.under("rain 0");
        Due.due("without rain", y.pass(60), 600);
    }

    private static void warStays() {
        SaltPeace x = new SaltPeace();
        Due.salts(x, 0, 0, 0, 0, 0, 0);
        Due.due("no WAR ahead of a DAY", x.told(3), 0);
        Due.due("pass(0)", x.pass(0), 0);
        Due.due("no WAR yet", x.told(3), 0);
        x.salt(3, 1);
        Due.due("pass(1)", x.pass(1), 0);
        Due.due("WAR", x.told(3), 1);
        x.salt(3, 50);
        Due.due("DAYS go at WAR", x.pass(1), 49);
        Due.due("it stays so", x.told(3), 1);
        Due.due("DAY", x.told(0), 2);
        SaltPeace y = new SaltPeace();
        Due.salts(y, 0, 0, 0, 0, 0, 2);
        y.pass(1);
        Due.due("PEACE by one SALT", y.told(3), 0);
    }

    private static void passBounds() {
        SaltPeace x = Due.under("rain 0");
        Due.due("-1", x.pass(-1), SaltPeace.BAD);
        Due.due("61", x.pass(61), SaltPeace.BAD);
        Due.due("MAX", x.pass(Integer.MAX_VALUE), SaltPeace.BAD);
        for (int i = 0; i < 166; i++) {
            x.pass(60);
        }
        Due.due("DAY", x.told(0), 9960);
        Due.due("over 9999", x.pass(40), SaltPeace.STATE);
        Due.due("BAD ahead of STATE", x.pass(61), SaltPeace.BAD);
        Due.due("DAY stays", x.told(0), 9960);
        Due.due("to 9999", x.pass(39), 600);
        Due.due("DAY 9999", x.told(0), 9999);
        Due.due("one more", x.pass(1), SaltPeace.STATE);
        Due.due("none more", x.pass(0), 600);
        Due.due("asked beyond", x.on(60, 0), 600);
    }

    private static void eatenAtMost() {
        SaltPeace x = Due.under("rain 0;need 99;wrong 99 p<9");
        Due.people(x, 2, 9, 0);
        for (int i = 1; i <= 10; i++) {
            x.salt(0, 999);
            x.pass(35);
            Due.due("EATEN " + i, x.of(0, 4), 980 * i);
        }
        x.salt(0, 999);
        Due.due("asked beyond 9999", x.on(35, 30), 10780);
        x.pass(35);
        Due.due("9999 at most", x.of(0, 4), 9999);
        x.salt(0, 999);
        Due.due("asked beyond 9999 again", x.on(1, 30), 10027);
        Due.due("GREEDIEST beyond", x.greediest(2), 0);
        Due.due("SHARE beyond", x.share(0, 2, 0), 1);
        Due.due("SHARE beyond, below", x.share(0, 2, 1), 1);
        x.pass(1);
        Due.due("9999 still", x.of(0, 4), 9999);
    }
}
