/** What the tests share: told answers, the count of those that are wrong, and texts as treaties. */
final class Due {
    private static int looked = 0;
    private static int wrong = 0;

    private Due() {
    }

    static void due(String call, long got, long want) {
        looked++;
        if (got != want) {
            wrong++;
            System.out.println(call + " answered " + got + ", due is " + want);
        }
    }

    static void feed(SaltPeace x, String text) {
        for (int i = 0; i < text.length(); i++) {
            x.feed(text.charAt(i));
        }
    }

    static int treaty(SaltPeace x, String text) {
        feed(x, text);
        return x.treaty();
    }

    /** A new object under a TREATY. */
    static SaltPeace under(String text) {
        SaltPeace x = new SaltPeace();
        due("treaty " + text, treaty(x, text), 0);
        return x;
    }

    static void people(SaltPeace x, int... kindVSide) {
        for (int i = 0; i + 2 < kindVSide.length; i += 3) {
            due("person", x.person(kindVSide[i], kindVSide[i + 1], kindVSide[i + 2]), i / 3);
        }
    }

    static void salts(SaltPeace x, int... each) {
        for (int side = 0; side < each.length; side++) {
            x.salt(side, each[side]);
        }
    }

    static void end(String test) {
        System.out.println(test + ": " + looked + " answers looked at, " + wrong + " wrong");
        if (wrong != 0 || looked == 0) {
            System.exit(1);
        }
    }
}
