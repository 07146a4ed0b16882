import java.util.Random;

/** Runs of calls drawn by a fixed seed, each answer of SaltPeace held against that of Model. */
public final class ModelTest {
    private static final int RUNS = Integer.getInteger("runs", 120);
    private static final int CALLS = 512;

    private final Random random;
    private final SaltPeace x = new SaltPeace();
    private final Model m = new Model();
    private final String run;
    private int calls = 0;

    private ModelTest(int seed) {
        random = new Random(seed);
        run = "run " + seed + ", ";
    }

    public static void main(String[] args) {
        for (int seed = 1; seed <= RUNS; seed++) {
            ModelTest test = new ModelTest(seed);
            test.begin();
            while (test.calls < CALLS) {
                test.next();
            }
        }
        Due.end("ModelTest");
    }

    private void due(String call, long got, long want) {
        calls++;
        Due.due(run + "call " + calls + ": " + call, got, want);
    }

    private int below(int n) {
        return random.nextInt(n);
    }

    /** Mostly 0 .. most, now and then at or over the edges. */
    private int about(int most) {
        int way = below(24);
        if (way == 0) return -1 - below(2);
        if (way == 1) return most + 1 + below(2);
        if (way == 2) return most;
        if (way == 3) return below(2) == 0 ? Integer.MIN_VALUE : Integer.MAX_VALUE;
        return below(most + 1);
    }

    /** Mostly one who is there. */
    private int one() {
        int people = m.count(0);
        return people > 0 && below(12) > 0 ? below(people) : about(5);
    }

    private void begin() {
        if (below(4) > 0) {
            treaty(clauses(1 + below(5)));
        }
        int people = below(7);
        for (int i = 0; i < people; i++) {
            person();
        }
    }

    private void person() {
        int kind = about(6), v = about(9), side = below(3) > 0 ? below(2) : about(5);
        due("person(" + kind + ", " + v + ", " + side + ")", x.person(kind, v, side), m.person(kind, v, side));
    }

    private void feed(int sign) {
        due("feed(" + sign + ")", x.feed(sign), m.feed(sign));
    }

    private void treaty(String text) {
        for (int i = 0; i < text.length(); i++) {
            feed(text.charAt(i));
        }
        due("treaty() " + text, x.treaty(), m.treaty());
        for (int what = 1; what <= 2; what++) {
            due("told", x.told(what), m.told(what));
        }
    }

    private String clauses(int many) {
        StringBuilder text = new StringBuilder();
        for (int i = 0; i < many; i++) {
            String clause = clause();
            if (text.length() + clause.length() > 70 && i > 0) {
                break;
            }
            text.append(i > 0 ? ";" : "").append(clause);
        }
        return text.toString();
    }

    private String clause() {
        switch (below(6)) {
            case 0: return "rain " + below(below(3) == 0 ? 100 : 4);
            case 1: return "need " + below(below(3) == 0 ? 20 : 4);
            case 2:
            case 3: return "calm " + below(below(2) == 0 ? 40 : 10) + " " + expression(0);
            default: return "wrong " + below(below(2) == 0 ? 40 : 10) + " " + expression(0);
        }
    }

    private String expression(int open) {
        String e = term(open);
        return below(4) == 0 ? e + "|" + expression(open) : e;
    }

    private String term(int open) {
        String t = factor(open);
        return below(4) == 0 ? t + "&" + term(open) : t;
    }

    private String factor(int open) {
        if (open < 6 && below(5) == 0) {
            return "!" + factor(open + 1);
        }
        if (open < 6 && below(6) == 0) {
            return "(" + expression(open + 1) + ")";
        }
        return "" + "pkvsgd".charAt(below(6)) + "<=>".charAt(below(3)) + below(below(5) == 0 ? 100 : 7);
    }

    /** A sign put in, taken out or made another. */
    private String spoilt(String text) {
        String signs = "rain need wrong calm0123456789;  pkvsgd<=>&|!()";
        StringBuilder spoilt = new StringBuilder(text);
        int place = below(text.length() + 1);
        char sign = signs.charAt(below(signs.length()));
        switch (below(4)) {
            case 0:
                spoilt.insert(place, sign);
                break;
            case 1:
                spoilt.setLength(place);
                break;
            case 2:
                spoilt.deleteCharAt(Math.min(place, text.length() - 1));
                break;
            default:
                spoilt.setCharAt(Math.min(place, text.length() - 1), sign);
                break;
        }
        return spoilt.toString();
    }

    private void next() {
        int way = below(100);
        if (way < 2) {
            treaty(clauses(1 + below(6)));
        } else if (way < 5) {
            treaty(spoilt(clauses(1 + below(3))));
        } else if (way < 6) {
            feed(about(127));
        } else if (way < 10) {
            person();
        } else if (way < 32) {
            change();
        } else if (way < 42) {
            tell();
        } else {
            ask();
        }
    }

    private void change() {
        int p = one(), n, side;
        switch (below(9)) {
            case 0: n = about(9); side = about(3);
                due("row " + p + " " + side + " " + n, x.row(p, side, n), m.row(p, side, n));
                break;
            case 1: n = about(5);
                due("set side " + p + " " + n, x.set(p, 0, n), m.set(p, 0, n));
                break;
            case 2: n = about(99); side = about(1);
                due("set " + p + " " + side + " " + n, x.set(p, side, n), m.set(p, side, n));
                break;
            case 3:
            case 4: n = below(3) == 0 ? about(999) : about(60); side = about(5);
                due("salt " + side + " " + n, x.salt(side, n), m.salt(side, n));
                break;
            case 5: side = about(5);
                boolean is = random.nextBoolean();
                due("roof " + side + " " + is, x.roof(side, is), m.roof(side, is));
                break;
            case 6: n = below(4) == 0 ? about(60) : about(3);
                due("pass " + n, x.pass(n), m.pass(n));
                break;
            case 7:
                due("image", x.image(), m.image());
                break;
            default:
                due("undo", x.undo(), m.undo());
                break;
        }
    }

    private void tell() {
        int side = about(5), n = below(2) == 0 ? about(20) : 0;
        int salt = below(4) == 0 ? about(999) : Math.max(0, m.on(n, 10 + side));
        switch (below(3)) {
            case 0:
                due("see " + side + " " + salt + " " + n, x.see(side, salt, n), m.see(side, salt, n));
                break;
            case 1:
                side = side == -1 && below(3) > 0 ? 0 : below(4);
                int number = below(2) == 0 ? one() : about(5);
                due("plan " + side + " " + number, x.plan(side, number), m.plan(side, number));
                break;
            default:
                due("book " + side + " " + salt, x.book(side, salt), m.book(side, salt));
                break;
        }
    }

    private void ask() {
        int p = one(), n = about(60), what = about(1), part = about(1), number;
        switch (below(31)) {
            case 0: due("of", x.of(p, 3), m.of(p, 3)); break;
            case 1: number = about(7); due("of " + p + " " + number, x.of(p, number), m.of(p, number)); break;
            case 2: number = about(16); due("told " + number, x.told(number), m.told(number)); break;
            case 3: number = about(40); due("on " + n + " " + number, x.on(n, number), m.on(n, number)); break;
            case 4: number = 30 + p; due("on " + n + " " + number, x.on(n, number), m.on(n, number)); break;
            case 5: due("lasts", x.lasts(), m.lasts()); break;
            case 6: due("hollow", x.hollow(), m.hollow()); break;
            case 7: due("thinnest " + n + " " + what, x.thinnest(n, what), m.thinnest(n, what)); break;
            case 8: due("greediest " + n, x.greediest(n), m.greediest(n)); break;
            case 9: due("forgive", x.forgive(), m.forgive()); break;
            case 10: due("move " + p, x.move(p), m.move(p)); break;
            case 11: due("roofs", x.roofs(), m.roofs()); break;
            case 12: due("share " + p + " " + n + " " + part, x.share(p, n, part), m.share(p, n, part)); break;
            case 13: number = about(99); due("angry " + number, x.angry(number), m.angry(number)); break;
            case 14: due("held " + p, x.held(p), m.held(p)); break;
            case 15: due("worst " + p + " " + what, x.worst(p, what), m.worst(p, what)); break;
            case 16: number = about(6); due("watch " + number + " " + what, x.watch(number, what), m.watch(number, what)); break;
            case 17: number = about(5); due("fill " + n + " " + number, x.fill(n, number), m.fill(n, number)); break;
            case 18: due("who", x.who(), m.who()); break;
            case 19: due("firm " + p + " " + what, x.firm(p, what), m.firm(p, what)); break;
            case 20: due("where " + p, x.where(p), m.where(p)); break;
            case 21: number = about(99); due("odds " + number + " " + part, x.odds(number, part), m.odds(number, part)); break;
            case 22: due("mean " + n + " " + part, x.mean(n, part), m.mean(n, part)); break;
            case 23: due("chips " + n, x.chips(n), m.chips(n)); break;
            case 24: due("done " + what, x.done(what), m.done(what)); break;
            case 25: due("looked", x.looked(), m.looked()); break;
            case 26:
            case 27: act(p); break;
            case 28: number = about(6); due("as " + p + " " + number, x.as(p, number), m.as(p, number)); break;
            case 29: number = about(6); due("count " + number, x.count(number), m.count(number)); break;
            default: number = about(3); due("trace " + number, x.trace(number), m.trace(number)); break;
        }
    }

    private void act(int p) {
        int act = about(2), with = below(3) == 0 ? random.nextInt() : below(50);
        due("act " + p + " " + act + " " + with, x.act(p, act, with), m.act(p, act, with));
        for (int i = 0; i <= Math.min(8, m.count(6)); i++) {
            due("trace " + i, x.trace(i), m.trace(i));
        }
    }
}
