import java.util.ArrayList;
import java.util.List;
import java.util.function.Consumer;
import java.util.function.Predicate;
import java.util.regex.Pattern;

/**
 * The document told a second time, in another way: states are copied, treaties stay texts that are cut at
 * their joints whenever they are asked, and a FAULT is found by trying whether a beginning can be completed.
 * ModelTest holds SaltPeace against it.
 */
final class Model {
    static final int NONE = -1, BAD = -2, STATE = -3, FULL = -4;
    static final long NO = Long.MIN_VALUE;
    private static final Pattern TEST = Pattern.compile("[pkvsgd][<=>](0|[1-9][0-9]?)");
    private static final Pattern NUMBER = Pattern.compile("0|[1-9][0-9]?");
    private static final int[] ABOVE = {-1, 0, 0, 0, 1, 2, 3};

    static final class One implements Cloneable {
        int kind, v, side, grudge, eaten;
        int[] row = new int[4];

        One copy() {
            One c = new One();
            c.kind = kind;
            c.v = v;
            c.side = side;
            c.grudge = grudge;
            c.eaten = eaten;
            c.row = row.clone();
            return c;
        }
    }

    static final class World {
        int[] salt = {100, 100, 100, 100, 100, 100};
        boolean[] roof = new boolean[6];
        List<One> people = new ArrayList<>();
        int day;
        boolean war;
        List<String> treaties = new ArrayList<>();
        String tape = "";
        List<int[]> seen = new ArrayList<>(), plan = new ArrayList<>(), book = new ArrayList<>();
        int still = -1, washed;
        int[] taken = new int[6];

        World copy() {
            World c = new World();
            c.salt = salt.clone();
            c.roof = roof.clone();
            for (One one : people) {
                c.people.add(one.copy());
            }
            c.day = day;
            c.war = war;
            c.treaties = new ArrayList<>(treaties);
            c.tape = tape;
            c.seen = new ArrayList<>(seen);
            c.plan = new ArrayList<>(plan);
            c.book = new ArrayList<>(book);
            return c;
        }

        String[] clauses() {
            return treaties.isEmpty() ? new String[0] : treaties.get(treaties.size() - 1).split(";");
        }

        int last(String word, int without) {
            int n = without;
            for (String clause : clauses()) {
                if (clause.startsWith(word + " ")) {
                    n = Integer.parseInt(clause.substring(word.length() + 1));
                }
            }
            return n;
        }

        int rain() {
            return last("rain", 1);
        }

        int need() {
            return Math.max(1, last("need", 2));
        }

        int anger(int p) {
            int anger = 0;
            for (String clause : clauses()) {
                String[] parts = clause.split(" ");
                if (parts.length == 3 && holds(parts[2], p)) {
                    anger += (parts[0].equals("wrong") ? 1 : -1) * Integer.parseInt(parts[1]);
                }
            }
            return anger;
        }

        boolean holds(String e, int p) {
            int cut = cut(e, '|');
            if (cut >= 0) {
                return holds(e.substring(0, cut), p) | holds(e.substring(cut + 1), p);
            }
            cut = cut(e, '&');
            if (cut >= 0) {
                return holds(e.substring(0, cut), p) & holds(e.substring(cut + 1), p);
            }
            if (e.charAt(0) == '!') {
                return !holds(e.substring(1), p);
            }
            if (e.charAt(0) == '(') {
                return holds(e.substring(1, e.length() - 1), p);
            }
            One one = people.get(p);
            int n = Integer.parseInt(e.substring(2));
            int is;
            switch (e.charAt(0)) {
                case 'p': is = p; break;
                case 'k': is = one.kind; break;
                case 'v': is = one.v; break;
                case 's': is = one.side; break;
                case 'g': is = one.grudge / 10; break;
                default: is = day % 10; break;
            }
            return e.charAt(1) == '<' ? is < n : e.charAt(1) == '=' ? is == n : is > n;
        }

        int rises(int p) {
            One one = people.get(p);
            int anger = anger(p);
            boolean thin = salt[one.side] < 20;
            switch (one.kind) {
                case 1: return anger / 2;
                case 2: return anger + one.v;
                case 3: return thin ? 0 : anger;
                case 4: return anger / 2 - one.v;
                case 5: return (anger + one.v) * (day % (one.v + 2) == 0 ? 2 : 1);
                case 6: return (thin ? 0 : anger) + one.row[day % 4];
                default: return anger;
            }
        }

        int licks(int p) {
            One one = people.get(p);
            switch (one.kind) {
                case 1: return 4;
                case 2: return 10 + 2 * one.v;
                case 3:
                case 6: return (day & 1) == 1 ? 15 : 10;
                case 4: return 0;
                case 5: return one.grudge > 80 ? 0 : 10 + 2 * one.v;
                default: return 10;
            }
        }

        int takes(int p) {
            One one = people.get(p);
            int least = p == still ? 0 : licks(p);
            least = Math.min(least, one.grudge * need());
            return Math.min(least, salt[one.side]);
        }

        void day() {
            int[] rises = new int[people.size()];
            for (int p = 0; p < rises.length; p++) {
                rises[p] = rises(p);
            }
            for (int p = 0; p < rises.length; p++) {
                One one = people.get(p);
                one.grudge += rises[p];
                if (one.grudge < 0) one.grudge = 0;
                if (one.grudge > 99) one.grudge = 99;
            }
            taken = new int[6];
            for (int p = 0; p < rises.length; p++) {
                One one = people.get(p);
                int takes = takes(p);
                taken[one.side] += takes;
                salt[one.side] -= takes;
                one.eaten += takes;
                one.grudge -= takes / need();
            }
            int rain = rain();
            for (int s = 0; s < 6; s++) {
                for (int i = 0; i < rain && !roof[s] && salt[s] > 0; i++) {
                    salt[s]--;
                    washed++;
                }
            }
            if (all() == 0) {
                war = true;
            }
            day++;
        }

        World days(int n) {
            for (int i = 0; i < n; i++) {
                day();
            }
            return this;
        }

        int all() {
            int all = 0;
            for (int s : salt) {
                all += s;
            }
            return all;
        }

        int grudges() {
            int all = 0;
            for (One one : people) {
                all += one.grudge;
            }
            return all;
        }

        int thin() {
            int least = 9999;
            for (int s : salt) {
                least = Math.min(least, s);
            }
            for (int s = 0; s < 6; s++) {
                if (salt[s] == least) {
                    return s;
                }
            }
            return -99;
        }
    }

    private World now = new World();
    private World image;
    private List<Integer> trace = new ArrayList<>();

    // ---- reading

    /** The first place of c outside of all ( ), or -1. */
    private static int cut(String e, char c) {
        int open = 0;
        for (int i = 0; i < e.length(); i++) {
            char d = e.charAt(i);
            if (d == '(') {
                open++;
            } else if (d == ')') {
                open--;
            } else if (d == c && open == 0) {
                return i;
            }
        }
        return -1;
    }

    private static boolean isE(String e, int open) {
        int cut = cut(e, '|');
        if (cut >= 0) {
            return isT(e.substring(0, cut), open) && isE(e.substring(cut + 1), open);
        }
        return isT(e, open);
    }

    private static boolean isT(String t, int open) {
        int cut = cut(t, '&');
        if (cut >= 0) {
            return isF(t.substring(0, cut), open) && isT(t.substring(cut + 1), open);
        }
        return isF(t, open);
    }

    private static boolean isF(String f, int open) {
        if (f.startsWith("!")) {
            return open < 5 && isF(f.substring(1), open + 1);
        }
        if (f.startsWith("(")) {
            return open < 5 && f.endsWith(")") && isE(f.substring(1, f.length() - 1), open + 1);
        }
        return TEST.matcher(f).matches();
    }

    static boolean isTreaty(String text) {
        String[] clauses = text.split(";", -1);
        if (clauses.length > 10) {
            return false;
        }
        for (String clause : clauses) {
            String[] parts = clause.split(" ", -1);
            boolean plain = parts.length == 2 && (parts[0].equals("rain") || parts[0].equals("need"));
            boolean judged = parts.length == 3 && (parts[0].equals("wrong") || parts[0].equals("calm"));
            if (!plain && !judged || !NUMBER.matcher(parts[1]).matches() || judged && !isE(parts[2], 0)) {
                return false;
            }
        }
        return true;
    }

    private static boolean canGoOn(String beginning) {
        for (String whole : new String[] {"rain 1", "need 1", "wrong 1 p=1", "calm 1 p=1"}) {
            for (int from = 0; from <= whole.length(); from++) {
                String on = beginning + whole.substring(from);
                for (int closed = 0; closed <= 5; closed++) {
                    if (isTreaty(on)) {
                        return true;
                    }
                    on += ")";
                }
            }
        }
        return false;
    }

    /** -1, if it is a TREATY. */
    static int fault(String text) {
        if (isTreaty(text)) {
            return -1;
        }
        for (int size = 1; size <= text.length(); size++) {
            if (!canGoOn(text.substring(0, size))) {
                return size - 1;
            }
        }
        return text.length();
    }

    // ---- the face

    private boolean one(int p) {
        return p >= 0 && p < now.people.size();
    }

    private static boolean in(int n, int least, int most) {
        return least <= n && n <= most;
    }

    int feed(int sign) {
        if (!in(sign, 0, 127)) return BAD;
        if (now.tape.length() == 100) return FULL;
        now.tape += (char) sign;
        return now.tape.length();
    }

    int treaty() {
        if (now.treaties.size() == 5) return FULL;
        String text = now.tape;
        now.tape = "";
        int fault = fault(text);
        if (fault >= 0) return -10 - fault;
        now.treaties.add(text);
        return now.treaties.size() - 1;
    }

    int person(int kind, int v, int side) {
        if (!in(kind, 0, 6) || !in(side, 0, 5)) return NONE;
        if (!in(v, 0, 9)) return BAD;
        if (now.people.size() == 6) return FULL;
        One one = new One();
        one.kind = kind;
        one.v = v;
        one.side = side;
        now.people.add(one);
        return now.people.size() - 1;
    }

    int of(int p, int what) {
        if (!one(p) || !in(what, 0, 7)) return -10001;
        One one = now.people.get(p);
        int[] all = {one.kind, one.v, one.side, one.grudge, one.eaten, now.rises(p), now.licks(p), now.takes(p)};
        return all[what];
    }

    int row(int p, int k, int n) {
        if (!one(p) || !in(k, 0, 3)) return NONE;
        if (!in(n, 0, 9)) return BAD;
        One one = now.people.get(p);
        if (one.kind != 6) return STATE;
        int was = one.row[k];
        one.row[k] = n;
        return was;
    }

    int set(int p, int what, int n) {
        if (!one(p) || what != 0 && what != 1) return NONE;
        if (n < 0 || n > (what == 0 ? 5 : 99)) return BAD;
        One one = now.people.get(p);
        int was = what == 0 ? one.side : one.grudge;
        if (what == 0) {
            one.side = n;
        } else {
            one.grudge = n;
        }
        return was;
    }

    int salt(int side, int n) {
        if (!in(side, 0, 5)) return NONE;
        if (!in(n, 0, 999)) return BAD;
        int was = now.salt[side];
        now.salt[side] = n;
        return was;
    }

    int roof(int side, boolean is) {
        if (!in(side, 0, 5)) return NONE;
        boolean was = now.roof[side];
        now.roof[side] = is;
        return was ? 1 : 0;
    }

    int told(int what) {
        if (in(what, 10, 15)) return now.salt[what - 10];
        int bits = 0;
        for (int s = 0; s < 6; s++) {
            bits += now.roof[s] ? 1 << s : 0;
        }
        int[] all = {now.day, now.rain(), now.need(), now.war ? 1 : 0, now.all(), now.grudges(), bits};
        return in(what, 0, 6) ? all[what] : NONE;
    }

    int pass(int n) {
        if (!in(n, 0, 60)) return BAD;
        if (now.day + n > 9999) return STATE;
        for (int i = 0; i < n; i++) {
            now.day();
            for (One one : now.people) {
                one.eaten = Math.min(one.eaten, 9999);
            }
        }
        return now.all();
    }

    int on(int n, int what) {
        if (!in(what, 0, 1) && !in(what, 10, 15) && !(what >= 20 && one(what - 20)) && !(what >= 30 && one(what - 30)))
            return NONE;
        if (!in(n, 0, 60)) return BAD;
        World then = now.copy().days(n);
        if (what == 0) return then.all();
        if (what == 1) return then.grudges();
        if (what < 16) return then.salt[what - 10];
        if (what < 26) return then.people.get(what - 20).grudge;
        return then.people.get(what - 30).eaten;
    }

    /** 1000 for: not by 99. */
    private int lasts(Consumer<World> as) {
        World w = now.copy();
        as.accept(w);
        int days = 0;
        while (!w.war && days <= 99) {
            w.day();
            days++;
        }
        return days <= 99 ? days : 1000;
    }

    int lasts() {
        int days = lasts(w -> { });
        return days == 1000 ? -5 : days;
    }

    int hollow() {
        return now.thin();
    }

    int thinnest(int n, int what) {
        if (!in(what, 0, 1)) return NONE;
        if (!in(n, 0, 60)) return BAD;
        World then = now.copy().days(n);
        return what == 0 ? then.thin() : then.salt[then.thin()];
    }

    int greediest(int n) {
        if (!in(n, 1, 60)) return BAD;
        World then = now.copy().days(n);
        int best = -5;
        for (int p = now.people.size() - 1; p >= 0; p--) {
            int eats = then.people.get(p).eaten - now.people.get(p).eaten;
            if (best < 0 || eats >= then.people.get(best).eaten - now.people.get(best).eaten) {
                best = p;
            }
        }
        return best;
    }

    /** The first of the numbers below n (that may be taken) with the greatest value above more. */
    private static int first(int n, int more, java.util.function.IntUnaryOperator value) {
        int best = -5;
        int most = more;
        for (int i = 0; i < n; i++) {
            int is = value.applyAsInt(i);
            if (is > most) {
                most = is;
                best = i;
            }
        }
        return best;
    }

    int forgive() {
        return first(now.people.size(), lasts(w -> { }), p -> lasts(w -> w.still = p));
    }

    int move(int p) {
        return one(p) ? first(6, -1, s -> lasts(w -> w.people.get(p).side = s)) : NONE;
    }

    int roofs() {
        return first(6, lasts(w -> { }), s -> now.roof[s] ? -1 : lasts(w -> w.roof[s] = true));
    }

    private static long fraction(long above, long below, int part) {
        if (!in(part, 0, 1) || below == 0) return NO;
        for (long d = below; d > 1; d--) {
            if (above % d == 0 && below % d == 0) {
                above /= d;
                below /= d;
            }
        }
        return part == 0 ? above : below;
    }

    long share(int p, int n, int part) {
        if (!one(p) || !in(n, 0, 60)) return NO;
        World then = now.copy().days(n);
        long all = 0;
        for (int i = 0; i < now.people.size(); i++) {
            all += then.people.get(i).eaten - now.people.get(i).eaten;
        }
        return fraction(then.people.get(p).eaten - now.people.get(p).eaten, all, part);
    }

    private int bits(int n, Predicate<Integer> is) {
        int bits = 0;
        for (int i = 0; i < n; i++) {
            bits += is.test(i) ? 1 << i : 0;
        }
        return bits;
    }

    int angry(int n) {
        return in(n, 0, 99) ? bits(now.people.size(), p -> now.people.get(p).grudge >= n) : BAD;
    }

    int held(int p) {
        if (!one(p)) return NONE;
        for (int n = 0; n <= 60; n++) {
            if (now.copy().days(n).people.get(p).grudge == 0) return n;
        }
        return -5;
    }

    int worst(int p, int what) {
        if (!one(p) || !in(what, 0, 1)) return NONE;
        int[] grudge = new int[61];
        for (int n = 0; n <= 60; n++) {
            grudge[n] = now.copy().days(n).people.get(p).grudge;
        }
        int n = first(61, -1, i -> grudge[i]);
        return what == 0 ? grudge[n] : n;
    }

    int watch(int k, int what) {
        if (!in(what, 0, 1)) return NONE;
        if (!in(k, 1, 6)) return BAD;
        int[] taken = now.copy().days(1).taken;
        java.util.function.IntUnaryOperator value = set -> {
            int all = 0;
            int many = 0;
            for (int s = 0; s < 6; s++) {
                if ((set & 1 << s) != 0) {
                    many++;
                    all += taken[s];
                }
            }
            return many == k ? all : -1;
        };
        int set = first(64, -1, value);
        return what == 0 ? set : value.applyAsInt(set);
    }

    int fill(int n, int side) {
        if (!in(side, 0, 5)) return NONE;
        if (!in(n, 1, 60)) return BAD;
        for (int more = 0; more < 1000; more += 10) {
            World w = now.copy();
            w.salt[side] = Math.min(999, w.salt[side] + more);
            if (w.days(n).salt[side] > 0) return more;
        }
        return -5;
    }

    int see(int side, int salt, int n) {
        if (side == -1) {
            now.seen.clear();
            return 0;
        }
        if (!in(side, 0, 5)) return NONE;
        if (!in(salt, 0, 999) || !in(n, 0, 20)) return BAD;
        if (now.seen.size() == 5) return FULL;
        now.seen.add(new int[] {side, salt, n});
        return now.seen.size();
    }

    private boolean seen(Consumer<World> as) {
        for (int[] row : now.seen) {
            World w = now.copy();
            as.accept(w);
            if (w.days(row[2]).salt[row[0]] != row[1]) return false;
        }
        return true;
    }

    int who() {
        return bits(now.people.size(), p -> seen(w -> w.still = p));
    }

    int firm(int p, int what) {
        if (!one(p) || !in(what, 0, 1)) return NONE;
        int those = bits(10, v -> seen(w -> w.people.get(p).v = v));
        if (what == 0) return Integer.bitCount(those);
        return those == 0 ? -5 : Integer.numberOfTrailingZeros(those);
    }

    int where(int p) {
        return one(p) ? bits(6, s -> seen(w -> w.people.get(p).side = s)) : NONE;
    }

    long odds(int n, int part) {
        if (!in(n, 0, 99)) return NO;
        int peace = bits(now.people.size(), p -> {
            World w = now.copy();
            w.still = p;
            return !w.days(n).war;
        });
        return fraction(Integer.bitCount(peace), now.people.size(), part);
    }

    long mean(int n, int part) {
        return in(n, 0, 60) ? fraction(now.copy().days(n).grudges(), now.people.size(), part) : NO;
    }

    int chips(int n) {
        return in(n, 1, 60) ? now.copy().days(n).washed : BAD;
    }

    int plan(int what, int number) {
        if (what == -1) {
            now.plan.clear();
            return 0;
        }
        if (!in(what, 0, 3) || (what == 1 || what == 2) && !in(number, 0, 5) || what == 3 && !one(number)) return NONE;
        if (now.plan.size() == 8) return FULL;
        now.plan.add(new int[] {what, number});
        return now.plan.size();
    }

    int done(int what) {
        if (!in(what, 0, 1)) return NONE;
        World w = now.copy();
        for (int[] row : now.plan) {
            if (row[0] == 0) w.day();
            if (row[0] == 1) w.roof[row[1]] = true;
            if (row[0] == 2) w.salt[row[1]] = Math.min(999, w.salt[row[1]] + 20);
            if (row[0] == 3) w.people.get(row[1]).grudge = 0;
        }
        return what == 0 ? w.all() : w.grudges();
    }

    int book(int side, int salt) {
        if (side == -1) {
            now.book.clear();
            return 0;
        }
        if (!in(side, 0, 5)) return NONE;
        if (!in(salt, 0, 999)) return BAD;
        if (now.book.size() == 8) return FULL;
        now.book.add(new int[] {side, salt});
        return now.book.size();
    }

    int looked() {
        for (int i = 0; i < now.book.size(); i++) {
            if (now.salt[now.book.get(i)[0]] != now.book.get(i)[1]) return i;
        }
        return -5;
    }

    /** The body that kind (or the next above) has for the act, done for p. */
    private int run(int p, int kind, int act, int x) {
        int[][] bodies = {{1, 2, 3}, {11, 0, 0}, {0, 21, 0}, {0, 0, 31}, {0, 0, 41}, {51, 0, 0}, {0, 61, 0}};
        int at = kind;
        while (bodies[at][act] == 0) {
            at = ABOVE[at];
        }
        int body = bodies[at][act];
        trace.add(body);
        One one = now.people.get(p);
        switch (body) {
            case 1: return x + p;
            case 2: return run(p, one.kind, 0, x) - one.v;
            case 3: return run(p, one.kind, 1, x) * 2;
            case 11: return run(p, ABOVE[at], 0, x * 3);
            case 21: return -run(p, ABOVE[at], 1, x);
            case 31: return run(p, ABOVE[at], 2, x) ^ 7;
            case 41: {
                int first = run(p, ABOVE[at], 2, x - 1);
                return first + run(p, one.kind, 0, 2);
            }
            case 51: return run(p, ABOVE[at], 0, x) ^ p;
            default: return run(p, ABOVE[at], 1, x) + one.v;
        }
    }

    int act(int p, int act, int x) {
        trace.clear();
        return one(p) && in(act, 0, 2) ? run(p, now.people.get(p).kind, act, x) : 0;
    }

    int trace(int i) {
        return in(i, 0, Math.min(20, trace.size()) - 1) ? trace.get(i) : NONE;
    }

    int as(int p, int k) {
        if (!one(p) || !in(k, 0, 6)) return NONE;
        for (int kind = now.people.get(p).kind; kind >= 0; kind = ABOVE[kind]) {
            if (kind == k) return now.people.get(p).v;
        }
        return -6;
    }

    int image() {
        image = now.copy();
        return now.people.size();
    }

    int undo() {
        if (image == null) return STATE;
        now = image.copy();
        return now.people.size();
    }

    int count(int what) {
        int[] all = {now.people.size(), now.treaties.size(), now.seen.size(), now.plan.size(), now.book.size(),
            now.tape.length(), trace.size()};
        return in(what, 0, 6) ? all[what] : NONE;
    }
}
