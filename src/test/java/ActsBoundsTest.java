/** Promises 37 to 42 where the document names a bound: each sentence of that kind has a test of its own here. */
public final class ActsBoundsTest {
    private static final int NONE = SaltPeace.NONE;
    private static final int[] EDGES = {Integer.MIN_VALUE, Integer.MIN_VALUE + 1, Integer.MIN_VALUE + 9, -(1 << 30) - 1,
        -(1 << 30), -715827883, -1, 0, 1, 715827883, 1 << 30, (1 << 30) + 1, Integer.MAX_VALUE - 9, Integer.MAX_VALUE - 1,
        Integer.MAX_VALUE};

    public static void main(String[] args) {
        intsWrap();
        minusTheLeast();
        sevenBodies();
        noActNoTrace();
        asOfAllKinds();
        noImageYet();
        imageOfTheNewOne();
        imageOfTheFullOne();
        imageOfTheLastDay();
        newestImage();
        countsAtMost();
        Due.end("ActsBoundsTest");
    }

    private static SaltPeace people(int kind, int v) {
        SaltPeace x = new SaltPeace();
        for (int i = 0; i < 6; i++) {
            Due.due("comes", x.person(kind, v, 0), i);
        }
        return x;
    }

    /** What is told of the KIND, in numbers that don't wrap before the end. */
    private static int told(int kind, int act, long x, int i, int v) {
        boolean isThreefold = kind == 1 || kind == 4;
        long wrongs = (isThreefold ? 3 * x : x) + i;
        if (kind == 5) {
            wrongs = (int) wrongs ^ i;
        }
        long licks = wrongs - v;
        if (kind == 2 || kind == 5) {
            licks = -licks;
        }
        if (kind == 6) {
            licks += v;
        }
        long tells = 2 * licks;
        if (kind == 4) {
            tells = 2 * (3 * (x - 1) + i - v) + 3 * 2 + i;
        }
        if (kind == 3 || kind == 6) {
            tells = (int) tells ^ 7;
        }
        return (int) (act == 0 ? wrongs : act == 1 ? licks : tells);
    }

    private static void intsWrap() {
        for (int kind = 0; kind <= 6; kind++) {
            for (int v = 0; v <= 9; v += 9) {
                SaltPeace x = people(kind, v);
                for (int edge : EDGES) {
                    for (int act = 0; act < 3; act++) {
                        int i = (edge & 1) * 5;
                        String call = "act " + act + " of KIND " + kind + ", v " + v + ", with " + edge;
                        Due.due(call, x.act(i, act, edge), told(kind, act, edge, i, v));
                    }
                }
            }
        }
    }

    private static void minusTheLeast() {
        SaltPeace x = people(2, 9);
        Due.due("-MIN is MIN", x.act(0, 1, Integer.MIN_VALUE + 9), Integer.MIN_VALUE);
        Due.due("-MIN twice is 0", x.act(0, 2, Integer.MIN_VALUE + 9), 0);
        Due.due("below MIN", x.act(0, 1, Integer.MIN_VALUE), -Integer.MAX_VALUE + 8);
        Due.due("above MAX", x.act(1, 0, Integer.MAX_VALUE), Integer.MIN_VALUE);
        SaltPeace meek = people(4, 0);
        // MAX three times is MAX - 2, that twice -6, and wrongs(2) is 6
        Due.due("1 less than MIN is MAX", meek.act(0, 2, Integer.MIN_VALUE), 0);
    }

    private static void sevenBodies() {
        SaltPeace x = people(4, 3);
        Due.due("no act yet", x.count(6), 0);
        Due.due("no TRACE yet", x.trace(0), NONE);
        x.act(5, 2, 1);
        int[] bodies = {41, 3, 2, 11, 1, 11, 1};
        Due.due("bodies", x.count(6), bodies.length);
        for (int i = 0; i < bodies.length; i++) {
            Due.due("body " + i, x.trace(i), bodies[i]);
        }
        int[] none = {-1, 7, 19, 20, Integer.MIN_VALUE, Integer.MAX_VALUE};
        for (int i : none) {
            Due.due("no body " + i, x.trace(i), NONE);
        }
        // the latest act alone
        x.act(5, 0, 1);
        Due.due("two bodies", x.count(6), 2);
        Due.due("the second", x.trace(1), 1);
        Due.due("no third", x.trace(2), NONE);
    }

    private static void noActNoTrace() {
        int[][] none = {{-1, 0}, {6, 0}, {0, -1}, {0, 3}, {6, 3}, {-1, -1}, {Integer.MIN_VALUE, 0}, {Integer.MAX_VALUE, 2},
            {0, Integer.MIN_VALUE}, {0, Integer.MAX_VALUE}};
        SaltPeace x = people(4, 3);
        for (int[] each : none) {
            x.act(5, 2, 1);
            Due.due("bodies", x.count(6), 7);
            Due.due("no act " + each[0] + " " + each[1], x.act(each[0], each[1], 1), 0);
            Due.due("no bodies", x.count(6), 0);
            Due.due("no TRACE", x.trace(0), NONE);
        }
        SaltPeace nobody = new SaltPeace();
        Due.due("nobody", nobody.act(0, 0, 5), 0);
        Due.due("no TRACE of nobody", nobody.trace(0), NONE);
    }

    private static void asOfAllKinds() {
        int[] above = {-1, 0, 0, 0, 1, 2, 3};
        for (int kind = 0; kind <= 6; kind++) {
            for (int v = 0; v <= 9; v += 9) {
                SaltPeace x = people(kind, v);
                for (int k = 0; k <= 6; k++) {
                    boolean is = k == kind || k == above[kind] || k == 0;
                    Due.due("KIND " + kind + " as " + k, x.as(5, k), is ? v : -6);
                }
                Due.due("as 7", x.as(5, 7), NONE);
                Due.due("as -1", x.as(5, -1), NONE);
                Due.due("one 6", x.as(6, 0), NONE);
            }
        }
    }

    private static void noImageYet() {
        SaltPeace x = Made.full();
        Due.due("undo", x.undo(), SaltPeace.STATE);
        Due.due("undo again", x.undo(), SaltPeace.STATE);
        Twins.alike("no image", x, Made.full());
    }

    private static void spoil(SaltPeace x) {
        x.see(-1, 0, 0);
        x.plan(-1, 0);
        x.book(-1, 0);
        x.see(5, 0, 20);
        x.plan(1, 5);
        x.book(5, 0);
        x.treaty();
        x.person(5, 9, 5);
        for (int p = 0; p < 6; p++) {
            x.set(p, 0, 5 - p);
            x.set(p, 1, 99);
            x.row(p, p % 4, 9);
        }
        for (int side = 0; side < 6; side++) {
            x.salt(side, 0);
            x.roof(side, side % 2 == 0);
        }
        x.pass(39);
        Due.feed(x, "calm calm");
    }

    private static void imageOfTheNewOne() {
        SaltPeace x = new SaltPeace(), y = new SaltPeace();
        Due.due("nobody in the image", x.image(), 0);
        Due.treaty(x, "rain 9");
        Due.people(x, 6, 0, 0, 6, 0, 0, 6, 0, 0, 6, 0, 0, 6, 0, 0);
        spoil(x);
        Due.due("WAR", x.told(3), 1);
        Due.due("nobody again", x.undo(), 0);
        Due.due("no such one", x.of(0, 0), -10001);
        y.image();
        Twins.alike("the image of the new one", x, y);
        x.undo();
        Due.due("another comes as the first", x.person(6, 0, 0), 0);
        for (int k = 0; k < 4; k++) {
            Due.due("its ROW", x.row(0, k, 1), 0);
        }
        Due.due("its GRUDGE", x.of(0, 3), 0);
        Due.due("the first TREATY", Due.treaty(x, "rain 9"), 0);
    }

    private static void imageOfTheFullOne() {
        SaltPeace x = Made.full(), y = Made.full();
        Due.due("six in the image", x.image(), 6);
        y.image();
        for (int i = 0; i < 2; i++) {
            spoil(x);
            Due.due("six again", x.undo(), 6);
        }
        Due.due("FULL of PEOPLE", x.person(0, 0, 0), SaltPeace.FULL);
        Due.due("FULL of signs", x.feed(0), SaltPeace.FULL);
        Due.due("FULL of TREATIES", x.treaty(), SaltPeace.FULL);
        Due.due("FULL of SEEN", x.see(0, 0, 0), SaltPeace.FULL);
        Due.due("FULL of PLAN", x.plan(0, 0), SaltPeace.FULL);
        Due.due("FULL of BOOK", x.book(0, 0), SaltPeace.FULL);
        Twins.alike("the image of the full one", x, y);
    }

    private static void imageOfTheLastDay() {
        SaltPeace x = Made.late("rain 0", 0, 0, 0);
        x.image();
        x.pass(39);
        Due.due("no DAY more", x.pass(1), SaltPeace.STATE);
        Due.due("undo", x.undo(), 1);
        Due.due("DAY", x.told(0), 9960);
        x.pass(39);
        x.image();
        x.undo();
        Due.due("the last DAY", x.told(0), 9999);
        Due.due("no DAY more again", x.pass(1), SaltPeace.STATE);
    }

    private static void newestImage() {
        SaltPeace x = new SaltPeace();
        for (int p = 0; p < 6; p++) {
            x.person(p, p, p);
            Due.due("the image of " + (p + 1), x.image(), p + 1);
            x.person(6, 0, 0);
            Due.due("undo to " + (p + 1), x.undo(), p + 1);
            Due.due("PEOPLE", x.count(0), p + 1);
        }
        x.act(4, 2, 1);
        Due.due("THE TRACE is not undone", x.undo(), 6);
        Due.due("bodies", x.count(6), 7);
        Due.due("the first", x.trace(0), 41);
    }

    private static void countsAtMost() {
        SaltPeace x = Made.full();
        int[] most = {6, 5, 5, 8, 8, 100, 0};
        for (int what = 0; what < 7; what++) {
            Due.due("most of " + what, x.count(what), most[what]);
            Due.due("none of " + what, new SaltPeace().count(what), 0);
        }
        x.act(4, 2, 0);
        Due.due("bodies", x.count(6), 7);
        int[] none = {-1, 7, Integer.MIN_VALUE, Integer.MAX_VALUE};
        for (int what : none) {
            Due.due("count " + what, x.count(what), NONE);
        }
        int[] cleared = {x.see(-1, 0, 0), x.plan(-1, 0), x.book(-1, 0)};
        for (int i = 0; i < 3; i++) {
            Due.due("cleared " + i, cleared[i], 0);
            Due.due("none then " + i, x.count(2 + i), 0);
        }
    }
}
