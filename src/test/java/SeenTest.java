/** Promises 26 to 32: see, who, firm, where, odds, mean, chips. */
public final class SeenTest {
    private static final long NO = SaltPeace.NO;

    public static void main(String[] args) {
        see();
        who();
        firm();
        where();
        odds();
        mean();
        chips();
        Due.end("SeenTest");
    }

    private static void see() {
        SaltPeace x = new SaltPeace();
        Due.due("none then", x.see(-1, -5, 99), 0);
        Due.due("side 6", x.see(6, 0, 0), SaltPeace.NONE);
        Due.due("side -2", x.see(-2, 0, 0), SaltPeace.NONE);
        Due.due("salt 1000", x.see(0, 1000, 0), SaltPeace.BAD);
        Due.due("salt -1", x.see(0, -1, 0), SaltPeace.BAD);
        Due.due("n 21", x.see(0, 0, 21), SaltPeace.BAD);
        Due.due("n -1", x.see(0, 0, -1), SaltPeace.BAD);
        Due.due("side ahead of salt", x.see(6, 1000, 21), SaltPeace.NONE);
        for (int i = 1; i <= 5; i++) {
            Due.due("see " + i, x.see(5, 999, 20), i);
        }
        Due.due("a sixth", x.see(0, 0, 0), SaltPeace.FULL);
        Due.due("BAD ahead of FULL", x.see(0, 0, 21), SaltPeace.BAD);
        Due.due("NONE ahead of FULL", x.see(6, 0, 0), SaltPeace.NONE);
        Due.due("count(2)", x.count(2), 5);
        Due.due("none then", x.see(-1, 1000, 21), 0);
        Due.due("count(2) then", x.count(2), 0);
        Due.due("the first again", x.see(0, 0, 0), 1);
    }

    private static void who() {
        SaltPeace x = Made.hungry(0, 0, 0, 2, 5, 0, 4, 0, 0);
        Due.due("nothing SEEN", x.who(), 7);
        x.see(0, 80, 1);
        Due.due("it was 0", x.who(), 1);
        x.see(0, 60, 2);
        x.see(1, 100, 20);
        x.see(0, 100, 0);
        Due.due("it was 0 still", x.who(), 1);
        x.see(0, 0, 20);
        Due.due("all five are so", x.who(), 1);
        x.see(-1, 0, 0);
        x.see(0, 90, 1);
        Due.due("it was 1", x.who(), 2);
        x.see(0, 79, 2);
        Due.due("it was nobody", x.who(), 0);
        x.see(-1, 0, 0);
        x.see(0, 70, 1);
        Due.due("one who takes nothing", x.who(), 4);
        x.see(0, 99, 0);
        Due.due("otherwise now", x.who(), 0);
        x.see(-1, 0, 0);
        x.see(1, 99, 20);
        Due.due("otherwise behind 20", x.who(), 0);
        x.see(-1, 0, 0);
        x.see(1, 100, 20);
        Due.due("so behind 20", x.who(), 7);
        x.see(-1, 0, 0);
        // from now, whenever now is
        x.see(0, 80, 1);
        x.pass(1);
        Due.due("from now on", x.who(), 0);
        x.salt(0, 100);
        Due.due("from now on again", x.who(), 1);
    }

    private static void firm() {
        SaltPeace x = Made.hungry(2, 3, 0, 0, 7, 1);
        Due.due("nothing SEEN", x.firm(0, 0), 10);
        Due.due("nothing SEEN, the least", x.firm(0, 1), 0);
        x.see(0, 80, 1);
        Due.due("one v", x.firm(0, 0), 1);
        Due.due("that v", x.firm(0, 1), 5);
        Due.due("no v of the other", x.firm(1, 0), 0);
        Due.due("no v of the other, the least", x.firm(1, 1), -5);
        x.see(-1, 0, 0);
        x.see(1, 90, 1);
        Due.due("every v", x.firm(1, 0), 10);
        x.see(-1, 0, 0);
        // 4 DAYS of 10 and 2 v: v 8 and 9 leave nothing
        x.see(0, 0, 4);
        Due.due("two", x.firm(0, 0), 2);
        Due.due("the least of two", x.firm(0, 1), 8);
        Due.due("its v stays", x.of(0, 1), 3);
        Due.due("what 2", x.firm(0, 2), SaltPeace.NONE);
        Due.due("what -1", x.firm(0, -1), SaltPeace.NONE);
        Due.due("one 2", x.firm(2, 0), SaltPeace.NONE);
        Due.due("one -1", x.firm(-1, 0), SaltPeace.NONE);
        SaltPeace y = Due.under("rain 0;need 1;wrong 8 v>2;calm 4 v>5");
        Due.people(y, 0, 0, 2);
        y.see(2, 92, 1);
        Due.due("by the TREATY", y.firm(0, 0), 3);
        Due.due("by the TREATY, the least", y.firm(0, 1), 3);
    }

    private static void where() {
        SaltPeace x = Made.hungry(0, 0, 2, 4, 0, 0);
        Due.due("nothing SEEN", x.where(0), 63);
        x.see(3, 90, 1);
        Due.due("there", x.where(0), 8);
        x.see(4, 99, 1);
        Due.due("nowhere", x.where(0), 0);
        x.see(-1, 0, 0);
        x.see(1, 100, 5);
        Due.due("not there", x.where(0), 61);
        x.see(0, 100, 5);
        Due.due("nor there", x.where(0), 60);
        Due.due("a MEEK one", x.where(1), 63);
        Due.due("its SIDE stays", x.of(0, 2), 2);
        Due.due("one 2", x.where(2), SaltPeace.NONE);
        Due.due("one -1", x.where(-1), SaltPeace.NONE);
    }

    private static void odds(SaltPeace x, int n, long above, long below) {
        Due.due("odds " + n + " above", x.odds(n, 0), above);
        Due.due("odds " + n + " below", x.odds(n, 1), below);
    }

    private static void odds() {
        SaltPeace x = Made.hungry(0, 0, 0, 2, 5, 0);
        Due.salts(x, 100, 0, 0, 0, 0, 0);
        // without 0 WAR comes behind 5, without 1 behind 10
        odds(x, 0, 1, 1);
        odds(x, 4, 1, 1);
        odds(x, 5, 1, 2);
        odds(x, 9, 1, 2);
        odds(x, 10, 0, 1);
        odds(x, 99, 0, 1);
        odds(x, 100, NO, NO);
        odds(x, -1, NO, NO);
        Due.due("part 2", x.odds(5, 2), NO);
        Due.due("part -1", x.odds(5, -1), NO);
        odds(new SaltPeace(), 5, NO, NO);
        x.salt(1, 1);
        odds(x, 99, 1, 1);
        SaltPeace y = Made.hungry(0, 0, 0, 2, 5, 0, 4, 0, 0, 4, 0, 0);
        Due.salts(y, 100, 0, 0, 0, 0, 0);
        odds(y, 3, 1, 1);
        odds(y, 4, 1, 2);
        odds(y, 5, 1, 4);
        Due.salts(y, 0);
        y.pass(1);
        y.salt(0, 100);
        odds(y, 0, 0, 1);
        SaltPeace z = new SaltPeace();
        Due.people(z, 0, 0, 0);
        Due.salts(z, 99, 0, 0, 0, 0, 0);
        odds(z, 98, 1, 1);
        odds(z, 99, 0, 1);
    }

    private static void mean(SaltPeace x, int n, long above, long below) {
        Due.due("mean " + n + " above", x.mean(n, 0), above);
        Due.due("mean " + n + " below", x.mean(n, 1), below);
    }

    private static void mean() {
        SaltPeace x = Due.under("wrong 4 p<2");
        Due.people(x, 4, 0, 0, 4, 0, 0);
        x.set(0, 1, 5);
        x.set(1, 1, 10);
        mean(x, 0, 15, 2);
        mean(x, 1, 19, 2);
        mean(x, 60, 99, 1);
        Due.people(new SaltPeace(), 0, 0, 0);
        Due.due("a third", x.person(4, 0, 0), 2);
        mean(x, 0, 5, 1);
        mean(x, 1, 19, 3);
        mean(x, 61, NO, NO);
        mean(x, -1, NO, NO);
        Due.due("part 2", x.mean(0, 2), NO);
        Due.due("part -1", x.mean(0, -1), NO);
        mean(new SaltPeace(), 0, NO, NO);
        SaltPeace calm = new SaltPeace();
        Due.people(calm, 0, 0, 0, 0, 0, 0);
        mean(calm, 0, 0, 1);
    }

    private static void chips() {
        SaltPeace x = Due.under("rain 30");
        Due.due("1", x.chips(1), 180);
        Due.due("3", x.chips(3), 540);
        Due.due("4", x.chips(4), 600);
        Due.due("60", x.chips(60), 600);
        Due.due("n 0", x.chips(0), SaltPeace.BAD);
        Due.due("n 61", x.chips(61), SaltPeace.BAD);
        x.roof(2, true);
        Due.due("a ROOF", x.chips(60), 500);
        x.pass(2);
        Due.due("in these alone", x.chips(1), 150);
        Due.due("nothing is changed", x.told(4), 300);
        SaltPeace y = Due.under("rain 95;need 99;wrong 99 p<9");
        Due.people(y, 0, 0, 0);
        Due.due("behind the licking", y.chips(1), 90 + 5 * 95);
        Due.treaty(y, "rain 0");
        Due.due("no rain", y.chips(60), 0);
    }
}
