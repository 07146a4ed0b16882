/** Promise 1: a new object. */
public final class NewTest {
    public static void main(String[] args) {
        SaltPeace x = new SaltPeace();
        Due.due("DAY", x.told(0), 0);
        Due.due("RAIN", x.told(1), 1);
        Due.due("NEED", x.told(2), 2);
        Due.due("WAR", x.told(3), 0);
        Due.due("SALT", x.told(4), 600);
        Due.due("GRUDGE", x.told(5), 0);
        Due.due("ROOFS", x.told(6), 0);
        for (int side = 0; side < 6; side++) {
            Due.due("SALT of " + side, x.told(10 + side), 100);
        }
        for (int what = 0; what < 7; what++) {
            Due.due("count(" + what + ")", x.count(what), 0);
        }
        Due.due("trace(0)", x.trace(0), SaltPeace.NONE);
        Due.due("undo()", x.undo(), SaltPeace.STATE);
        Due.due("of(0, 0)", x.of(0, 0), -10001);
        Due.due("NONE", SaltPeace.NONE, -1);
        Due.due("BAD", SaltPeace.BAD, -2);
        Due.due("STATE", SaltPeace.STATE, -3);
        Due.due("FULL", SaltPeace.FULL, -4);
        Due.due("NO", SaltPeace.NO, Long.MIN_VALUE);
        Due.end("NewTest");
    }
}
