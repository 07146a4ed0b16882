/** Two objects that have heard the same calls must answer alike, whatever was refused to one of them since. */
final class Twins {
    private static final int PEOPLE = 6;

    private Twins() {
    }

    /** Asks both for all that can be asked; their TAPE, ROWS and all that the image does not keep are spoilt by it. */
    static void alike(String behind, SaltPeace x, SaltPeace y) {
        counts(behind, x, y);
        traces(behind, x, y);
        block(behind, x, y);
        people(behind, x, y);
        told(behind, x, y);
        rows(behind, x, y);
        due(behind, "feed", x.feed(' '), y.feed(' '));
        due(behind, "treaty", x.treaty(), y.treaty());
        due(behind, "undo", x.undo(), y.undo());
        counts(behind + ", undo", x, y);
        block(behind + ", undo", x, y);
    }

    private static void due(String behind, String call, long got, long want) {
        Due.due(call + " behind " + behind, got, want);
    }

    private static void counts(String behind, SaltPeace x, SaltPeace y) {
        for (int what = 0; what <= 6; what++) {
            due(behind, "count " + what, x.count(what), y.count(what));
        }
    }

    private static void traces(String behind, SaltPeace x, SaltPeace y) {
        for (int i = 0; i < 7; i++) {
            due(behind, "trace " + i, x.trace(i), y.trace(i));
        }
    }

    private static void block(String behind, SaltPeace x, SaltPeace y) {
        for (int what = 0; what < 16; what++) {
            due(behind, "told " + what, x.told(what), y.told(what));
        }
        due(behind, "lasts", x.lasts(), y.lasts());
        due(behind, "on 20", x.on(20, 0), y.on(20, 0));
    }

    private static void people(String behind, SaltPeace x, SaltPeace y) {
        for (int p = 0; p < PEOPLE; p++) {
            for (int what = 0; what < 8; what++) {
                due(behind, "of " + p + " " + what, x.of(p, what), y.of(p, what));
            }
        }
    }

    /** What was told by hand can only be seen from what follows of it. */
    private static void told(String behind, SaltPeace x, SaltPeace y) {
        due(behind, "who", x.who(), y.who());
        due(behind, "where", x.where(0), y.where(0));
        due(behind, "firm", x.firm(0, 0), y.firm(0, 0));
        due(behind, "done SALT", x.done(0), y.done(0));
        due(behind, "done GRUDGE", x.done(1), y.done(1));
        due(behind, "looked", x.looked(), y.looked());
    }

    private static void rows(String behind, SaltPeace x, SaltPeace y) {
        for (int p = 0; p < PEOPLE; p++) {
            for (int k = 0; k < 4; k++) {
                due(behind, "row " + p + " " + k, x.row(p, k, 0), y.row(p, k, 0));
            }
        }
    }
}
