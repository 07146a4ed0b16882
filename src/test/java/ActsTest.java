/** Promises 37 to 42: act, trace, as, image, undo, count. */
public final class ActsTest {
    public static void main(String[] args) {
        acts();
        wraps();
        noAct();
        as();
        noImage();
        imageOfAll();
        imageStays();
        imageKeepsNoTrace();
        counts();
        Due.end("ActsTest");
    }

    private static void act(SaltPeace x, int person, int act, int with, int want, int... bodies) {
        String call = "act(" + person + ", " + act + ", " + with + ")";
        Due.due(call, x.act(person, act, with), want);
        Due.due("bodies of " + call, x.count(6), bodies.length);
        for (int i = 0; i < bodies.length; i++) {
            Due.due("body " + i + " of " + call, x.trace(i), bodies[i]);
        }
        Due.due("no body before " + call, x.trace(-1), SaltPeace.NONE);
        Due.due("no body behind " + call, x.trace(bodies.length), SaltPeace.NONE);
    }

    private static SaltPeace six() {
        SaltPeace x = new SaltPeace();
        Due.people(x, 5, 2, 0, 1, 3, 0, 2, 4, 0, 3, 5, 0, 4, 6, 0, 6, 7, 0);
        return x;
    }

    private static void acts() {
        SaltPeace x = six();
        // PROUD 0, v 2
        act(x, 0, 0, 10, 10, 51, 1);
        act(x, 0, 1, 10, -8, 21, 2, 51, 1);
        act(x, 0, 2, 10, -16, 3, 21, 2, 51, 1);
        // GENTLE 1, v 3
        act(x, 1, 0, 10, 31, 11, 1);
        act(x, 1, 1, 10, 28, 2, 11, 1);
        act(x, 1, 2, 10, 56, 3, 2, 11, 1);
        // BITTER 2, v 4
        act(x, 2, 0, 10, 12, 1);
        act(x, 2, 1, 10, -8, 21, 2, 1);
        act(x, 2, 2, 10, -16, 3, 21, 2, 1);
        // SLY 3, v 5
        act(x, 3, 0, 10, 13, 1);
        act(x, 3, 1, 10, 8, 2, 1);
        act(x, 3, 2, 10, 16 ^ 7, 31, 3, 2, 1);
        // MEEK 4, v 6: (27 + 4 - 6) * 2 and 6 + 4
        act(x, 4, 0, 10, 34, 11, 1);
        act(x, 4, 1, 10, 28, 2, 11, 1);
        act(x, 4, 2, 10, 60, 41, 3, 2, 11, 1, 11, 1);
        // TOLD 5, v 7
        act(x, 5, 0, 10, 15, 1);
        act(x, 5, 1, 10, 15, 61, 2, 1);
        act(x, 5, 2, 10, 30 ^ 7, 31, 3, 61, 2, 1);
        SaltPeace y = new SaltPeace();
        Due.people(y, 0, 9, 0, 0, 8, 0, 0, 7, 0, 5, 6, 0);
        act(y, 2, 0, 10, 12, 1);
        act(y, 2, 1, 10, 5, 2, 1);
        act(y, 2, 2, 10, 10, 3, 2, 1);
        // PROUD 3: (10 + 3) ^ 3
        act(y, 3, 0, 10, 14, 51, 1);
    }

    private static void wraps() {
        SaltPeace x = six();
        act(x, 5, 0, Integer.MAX_VALUE, Integer.MIN_VALUE + 4, 1);
        act(x, 1, 0, 1 << 30, (1 << 30) * 3 + 1, 11, 1);
        act(x, 4, 2, Integer.MIN_VALUE, ((Integer.MAX_VALUE * 3 + 4 - 6) * 2) + 10, 41, 3, 2, 11, 1, 11, 1);
        act(x, 2, 1, Integer.MIN_VALUE + 2, Integer.MIN_VALUE, 21, 2, 1);
    }

    private static void noAct() {
        SaltPeace x = six();
        act(x, 0, 0, 5, 5, 51, 1);
        act(x, 6, 0, 5, 0);
        act(x, 0, 0, 5, 5, 51, 1);
        act(x, -1, 0, 5, 0);
        act(x, 0, 0, 5, 5, 51, 1);
        act(x, 0, 3, 5, 0);
        act(x, 0, 0, 5, 5, 51, 1);
        act(x, 0, -1, 5, 0);
    }

    private static void as() {
        SaltPeace x = new SaltPeace();
        Due.people(x, 0, 1, 0, 1, 2, 0, 2, 3, 0, 4, 4, 0, 5, 5, 0, 6, 6, 0);
        int[][] under = {{0}, {0, 1}, {0, 2}, {0, 1, 4}, {0, 2, 5}, {0, 3, 6}};
        for (int p = 0; p < 6; p++) {
            for (int k = 0; k <= 6; k++) {
                boolean is = false;
                for (int kind : under[p]) {
                    is |= kind == k;
                }
                Due.due("as(" + p + ", " + k + ")", x.as(p, k), is ? p + 1 : -6);
            }
        }
        Due.due("one 6", x.as(6, 0), SaltPeace.NONE);
        Due.due("one -1", x.as(-1, 0), SaltPeace.NONE);
        Due.due("k 7", x.as(0, 7), SaltPeace.NONE);
        Due.due("k -1", x.as(0, -1), SaltPeace.NONE);
        SaltPeace y = new SaltPeace();
        Due.people(y, 3, 7, 0);
        Due.due("SLY as SLY", y.as(0, 3), 7);
        Due.due("SLY as TOLD", y.as(0, 6), -6);
    }

    private static void noImage() {
        SaltPeace x = six();
        Due.due("undo", x.undo(), SaltPeace.STATE);
        Due.due("nothing is changed", x.count(0), 6);
        Due.due("an image of nobody", new SaltPeace().image(), 0);
    }

    private static SaltPeace full() {
        SaltPeace x = Due.under("rain 4;need 3;wrong 6 p<9");
        Due.people(x, 6, 4, 1, 0, 2, 2);
        x.row(0, 1, 8);
        x.set(1, 1, 33);
        x.salt(5, 77);
        x.roof(3, true);
        x.see(1, 11, 2);
        x.plan(2, 2);
        x.book(5, 70);
        Due.feed(x, "rain");
        x.pass(3);
        return x;
    }

    private static void isFull(SaltPeace x, SaltPeace other) {
        for (int what = 0; what < 16; what++) {
            Due.due("told(" + what + ")", x.told(what), other.told(what));
        }
        for (int what = 0; what < 6; what++) {
            Due.due("count(" + what + ")", x.count(what), other.count(what));
        }
        for (int p = 0; p < 3; p++) {
            for (int what = 0; what < 8; what++) {
                Due.due("of(" + p + ", " + what + ")", x.of(p, what), other.of(p, what));
            }
            Due.due("act(" + p + ")", x.act(p, 2, 5), other.act(p, 2, 5));
            Due.due("where(" + p + ")", x.where(p), other.where(p));
            for (int k = 0; k < 4; k++) {
                Due.due("row(" + p + ", " + k + ")", x.row(p, k, 0), other.row(p, k, 0));
            }
        }
        Due.due("done(0)", x.done(0), other.done(0));
        Due.due("looked()", x.looked(), other.looked());
        Due.due("on(9, 0)", x.on(9, 0), other.on(9, 0));
        Due.due("feed goes on", x.feed(' '), other.feed(' '));
        Due.due("the TAPE's FAULT", x.treaty(), other.treaty());
    }

    private static void spoil(SaltPeace x) {
        x.treaty();
        Due.treaty(x, "rain 50;need 1");
        x.person(1, 1, 1);
        x.set(0, 0, 5);
        x.set(0, 1, 5);
        x.row(0, 1, 1);
        x.salt(0, 500);
        x.roof(0, true);
        x.roof(3, false);
        x.see(-1, 0, 0);
        x.see(0, 0, 0);
        x.see(0, 0, 0);
        x.plan(-1, 0);
        x.plan(0, 0);
        x.plan(3, 2);
        x.book(-1, 0);
        x.book(0, 1);
        x.book(0, 2);
        x.pass(60);
        Due.feed(x, "calm calm");
    }

    private static void imageOfAll() {
        SaltPeace x = full();
        Due.due("image", x.image(), 2);
        spoil(x);
        Due.due("spoilt", x.count(0), 3);
        Due.due("undo", x.undo(), 2);
        isFull(x, full());
        imageOfSeen();
        // WAR is undone, too, and PEACE
        SaltPeace w = new SaltPeace();
        Due.salts(w, 0, 0, 0, 0, 0, 0);
        w.image();
        w.pass(1);
        Due.due("WAR", w.told(3), 1);
        w.undo();
        Due.due("PEACE again", w.told(3), 0);
        w.pass(1);
        w.image();
        w.salt(0, 5);
        w.undo();
        Due.due("WAR again", w.told(3), 1);
        Due.due("SALT again", w.told(10), 0);
    }

    private static void imageOfSeen() {
        SaltPeace x = Due.under("rain 2");
        Due.people(x, 4, 0, 0);
        x.see(1, 100, 0);
        x.see(2, 94, 3);
        x.see(3, 60, 20);
        Due.due("SEEN", x.who(), 1);
        x.image();
        x.see(-1, 0, 0);
        x.see(5, 1, 19);
        x.see(5, 2, 18);
        x.see(5, 3, 17);
        Due.due("otherwise SEEN", x.who(), 0);
        x.undo();
        Due.due("SEEN again", x.who(), 1);
        Due.due("so many", x.count(2), 3);
    }

    private static void imageStays() {
        SaltPeace x = full();
        x.image();
        spoil(x);
        x.undo();
        spoil(x);
        Due.due("undo again", x.undo(), 2);
        isFull(x, full());
        SaltPeace y = full();
        y.image();
        spoil(y);
        Due.due("a newer image", y.image(), 3);
        y.salt(0, 999);
        Due.due("undo to the newer", y.undo(), 3);
        Due.due("DAY of the newer", y.told(0), 63);
        Due.due("another comes", y.person(0, 0, 0), 3);
        Due.due("it is a new one", y.of(3, 4), 0);
        Due.due("undo once more", y.undo(), 3);
        // a number that was undone is given to a new one of another KIND
        Due.due("number 3 again", y.person(6, 9, 1), 3);
        Due.due("its KIND", y.of(3, 0), 6);
        for (int k = 0; k < 4; k++) {
            Due.due("its ROW", y.row(3, k, 5), 0);
        }
        y.undo();
        Due.due("number 3 once more", y.person(6, 9, 1), 3);
        for (int k = 0; k < 4; k++) {
            Due.due("its ROW anew", y.row(3, k, 5), 0);
        }
    }

    private static void imageKeepsNoTrace() {
        SaltPeace x = six();
        x.act(4, 2, 10);
        x.image();
        x.act(0, 0, 10);
        x.undo();
        Due.due("the latest act", x.count(6), 2);
        Due.due("its TRACE", x.trace(0), 51);
        Due.due("its TRACE, 1", x.trace(1), 1);
        Due.due("no more", x.trace(2), SaltPeace.NONE);
    }

    private static void counts() {
        SaltPeace x = six();
        Due.due("PEOPLE", x.count(0), 6);
        Due.treaty(x, "rain 1");
        Due.treaty(x, "rain 2");
        Due.due("TREATIES", x.count(1), 2);
        x.see(0, 0, 0);
        x.see(0, 0, 0);
        x.see(0, 0, 0);
        Due.due("SEEN", x.count(2), 3);
        x.plan(0, 0);
        Due.due("PLAN", x.count(3), 1);
        x.book(0, 0);
        x.book(0, 0);
        Due.due("BOOK", x.count(4), 2);
        Due.feed(x, "calm");
        Due.due("TAPE", x.count(5), 4);
        x.act(4, 2, 0);
        Due.due("bodies", x.count(6), 7);
        Due.due("7", x.count(7), SaltPeace.NONE);
        Due.due("-1", x.count(-1), SaltPeace.NONE);
    }
}
