/** Promises 1 to 11 where the document names a bound: each sentence of that kind has a test of its own here. */
public final class BlockBoundsTest {
    private static final int NONE = SaltPeace.NONE, BAD = SaltPeace.BAD, STATE = SaltPeace.STATE, FULL = SaltPeace.FULL;

    public static void main(String[] args) {
        aTapeOf100();
        tooEarly();
        eachSignAtEachPlace();
        lessThanNothing();
        numbersOfOneOrTwoDigits();
        tenClauses();
        fiveOpenOnes();
        fiveTreaties();
        needOfOneAtLeast();
        gIsCut();
        dIsModuloTen();
        halvesAreCutTowardZero();
        risesBelowZero();
        proudDays();
        thinAtTwenty();
        takesTheLeastOfThree();
        licksFromWhatIsLeft();
        grudgeIsCutByNeed();
        grudgesEnd();
        eatenEnds();
        rainEnds();
        warAtZero();
        daysEnd();
        sixOfPeople();
        Due.end("BlockBoundsTest");
    }

    private static void treaty(String text, int want) {
        SaltPeace x = new SaltPeace();
        Due.due("treaty " + text, Due.treaty(x, text), want);
        Due.due("THE TAPE is empty behind " + text, x.count(5), 0);
        Due.due("TREATIES behind " + text, x.count(1), want == 0 ? 1 : 0);
    }

    // ---- THE TAPE and what is read from it

    private static void aTapeOf100() {
        String whole = "wrong 10 p=1" + "|p=1".repeat(22);
        Due.due("signs", whole.length(), 100);
        treaty(whole, 0);
        SaltPeace x = new SaltPeace();
        Due.feed(x, whole);
        Due.due("the 101st", x.feed('|'), FULL);
        Due.due("it is a TREATY still", x.treaty(), 0);
        Due.people(x, 0, 0, 0, 0, 0, 0);
        Due.due("the E of 100 holds", x.of(1, 5), 10);
        Due.due("the E of 100 does not", x.of(0, 5), 0);
    }

    private static void tooEarly() {
        treaty("", -10);
        treaty("wrong 10 p=1" + "|p=1".repeat(21) + "|p=", -10 - 99);
        treaty("wrong 1 p=1" + "|p=1".repeat(22) + "|", -10 - 100);
        String[] early = {"w", "wron", "wrong", "wrong ", "wrong 1", "wrong 1 ", "wrong 1 p", "wrong 1 p<", "wrong 1 !",
            "wrong 1 (", "wrong 1 (p<1", "wrong 1 p<1&", "wrong 1 p<1|", "wrong 1 p<1;", "calm", "calm 9", "need", "need ",
            "rain 1;", "rain 1;n", "wrong 1 !(p<1"};
        for (String text : early) {
            treaty(text, -10 - text.length());
        }
    }

    /** Behind a text these signs can go on, and all others are the FAULT; # never can. */
    private static void goesOn(String text, String signs) {
        for (char sign = 0; sign < 128; sign++) {
            int fault = text.length() + (signs.indexOf(sign) >= 0 ? 1 : 0);
            treaty(text + sign + "#", -10 - fault);
        }
    }

    private static void eachSignAtEachPlace() {
        String digits = "0123456789", words = "rnwc", factor = "pkvsgd!(";
        goesOn("", words);
        String[] clauses = {"rain ", "need ", "wrong ", "calm "};
        for (String clause : clauses) {
            for (int i = 1; i < clause.length(); i++) {
                goesOn(clause.substring(0, i), clause.substring(i, i + 1));
            }
            goesOn(clause, digits);
            String behind = clause.equals("rain ") || clause.equals("need ") ? ";" : " ";
            goesOn(clause + "0", behind);
            goesOn(clause + "1", digits + behind);
            goesOn(clause + "10", behind);
        }
        goesOn("rain 1;", words);
        goesOn("wrong 1 p=1;", words);
        String[] open = {"", "!", "(", "p=1&", "p=1|", "!!!!", "((((", "!(!(", "!!!!!p=1&", "(((((p=1)))))|"};
        for (String e : open) {
            goesOn("wrong 1 " + e, factor);
        }
        goesOn("wrong 1 !!!!!", "pkvsgd");
        goesOn("wrong 1 (((((", "pkvsgd");
        goesOn("calm 1 (!(!(p=1|", "pkvsgd");
        for (char letter : "pkvsgd".toCharArray()) {
            goesOn("calm 1 " + letter, "<=>");
        }
        for (char sign : "<=>".toCharArray()) {
            goesOn("calm 1 p" + sign, digits);
            goesOn("calm 1 p" + sign + "0", "&|;");
            goesOn("calm 1 p" + sign + "1", digits + "&|;");
            goesOn("calm 1 p" + sign + "99", "&|;");
        }
        goesOn("wrong 1 (p=0", "&|)");
        goesOn("wrong 1 !(p=9", digits + "&|)");
        goesOn("wrong 1 (p=1)", "&|;");
        goesOn("wrong 1 ((p=1)", "&|)");
        goesOn("wrong 1 ((p=1)&(p=1)", "&|)");
        goesOn("rain 0" + ";rain 0".repeat(8), ";");
        goesOn("rain 0" + ";rain 0".repeat(9), "");
        goesOn("rain 0" + ";rain 9".repeat(9), digits);
    }

    private static void lessThanNothing() {
        SaltPeace x = new SaltPeace();
        Due.people(x, 0, 0, 0);
        String[] never = {"p<0", "k<0", "v<0", "s<0", "g<0", "d<0", "p>99", "k>99", "v>99", "s>99", "g>99", "d>99"};
        x.image();
        for (String test : never) {
            String text = "wrong 1 " + test + ";wrong 2 !" + test + ";wrong 4 p=0|" + test + ";wrong 8 p=0&" + test;
            Due.due("treaty " + text, Due.treaty(x, text), 0);
            Due.due("ANGER by " + text, x.of(0, 5), 2 + 4);
            x.undo();
        }
    }

    private static void numbersOfOneOrTwoDigits() {
        int[][] numbers = {{0, 1}, {1, 1}, {9, 1}, {10, 2}, {99, 2}};
        for (int[] number : numbers) {
            treaty("rain " + number[0], 0);
            treaty("need " + number[0], 0);
            treaty("wrong " + number[0] + " p=" + number[0], 0);
            treaty("calm " + number[0] + " p=" + number[0], 0);
            SaltPeace x = Due.under("rain " + number[0]);
            Due.due("RAIN", x.told(1), number[0]);
            Due.due("a third digit", Due.treaty(x, "rain 100"), -10 - 7);
            Due.due("a 0 ahead", Due.treaty(x, "rain 0" + number[0]), -10 - 6);
            Due.due("a 0 ahead in a TEST", Due.treaty(x, "calm 1 p=0" + number[0]), -10 - 10);
            Due.due("a third digit in a TEST", Due.treaty(x, "calm 1 p=990"), -10 - 11);
            Due.due("RAIN stays", x.told(1), number[0]);
        }
    }

    private static void tenClauses() {
        String ten = "rain 9" + ";need 9".repeat(9);
        treaty(ten, 0);
        treaty(ten + ";", -10 - ten.length());
        treaty(ten + ";need 9", -10 - ten.length());
        SaltPeace x = Due.under("rain 1" + ";rain 2".repeat(8) + ";rain 7");
        Due.due("the tenth counts", x.told(1), 7);
        SaltPeace y = Due.under("calm 1 p=0" + ";wrong 9 p=0".repeat(7));
        Due.people(y, 0, 0, 0);
        Due.due("all together", y.of(0, 5), 7 * 9 - 1);
    }

    private static void fiveOpenOnes() {
        for (int nots = 0; nots <= 6; nots++) {
            for (int brackets = 0; brackets + nots <= 7; brackets++) {
                String begin = "wrong 1 " + "!".repeat(nots) + "(".repeat(brackets);
                treaty(begin + "p=1" + ")".repeat(brackets), nots + brackets <= 5 ? 0 : -10 - 13);
            }
        }
        // what was open before is closed: a ( by its ), a ! with its F
        treaty("wrong 1 !!!!!p=1&!!!!!p=1", 0);
        treaty("wrong 1 !!!!!p=1|!!!!!!p=1", -10 - 22);
        treaty("wrong 1 (((((p=1)))))|(((((p=1)))))", 0);
        treaty("wrong 1 (((((p=1)))))|((((((p=1))))))", -10 - 27);
        treaty("wrong 1 ((((!p=1&!p=1|!p=1))))", 0);
        treaty("wrong 1 (((((!p=1)))))", -10 - 13);
        treaty("wrong 1 !(p=1)&!!!!!p=1;calm 1 !!!!!p=1", 0);
    }

    private static void fiveTreaties() {
        SaltPeace x = new SaltPeace();
        Due.due("the first", Due.treaty(x, "rain 5"), 0);
        Due.due("a FAULT has no number", Due.treaty(x, "rain 5x"), -10 - 6);
        for (int i = 1; i < 5; i++) {
            Due.due("the next " + i, Due.treaty(x, "rain " + i), i);
            Due.due("the newest holds " + i, x.told(1), i);
        }
        Due.feed(x, "rain 9");
        Due.due("a sixth", x.treaty(), FULL);
        Due.due("THE TAPE stays", x.count(5), 6);
        Due.due("the fifth holds", x.told(1), 4);
        Due.due("they stay five", x.count(1), 5);
    }

    private static void needOfOneAtLeast() {
        String[] texts = {"need 0", "need 1", "need 2", "need 99", "need 5;need 0", "need 0;need 5", "rain 5"};
        int[] needs = {1, 1, 2, 99, 1, 5, 2};
        for (int i = 0; i < texts.length; i++) {
            SaltPeace x = Due.under(texts[i]);
            Due.due("NEED by " + texts[i], x.told(2), needs[i]);
            Due.people(x, 0, 0, 0);
            x.set(0, 1, 3);
            Due.due("WHAT IT TAKES by " + texts[i], x.of(0, 7), Math.min(10, 3 * needs[i]));
        }
    }

    // ---- TESTS, RISES, LICKS

    private static void gIsCut() {
        SaltPeace x = Due.under("wrong 1 g=0;wrong 2 g=1;wrong 4 g=9;wrong 8 g=10");
        Due.people(x, 0, 0, 0);
        int[][] grudges = {{0, 1}, {9, 1}, {10, 2}, {19, 2}, {20, 0}, {89, 0}, {90, 4}, {99, 4}};
        for (int[] grudge : grudges) {
            x.set(0, 1, grudge[0]);
            Due.due("ANGER at " + grudge[0], x.of(0, 5), grudge[1]);
        }
    }

    private static void dIsModuloTen() {
        SaltPeace x = Due.under("wrong 1 d=9;wrong 2 d=0;wrong 4 d>9;rain 0");
        Due.people(x, 0, 0, 0);
        for (int day = 0; day <= 31; day++) {
            Due.due("ANGER on " + day, x.of(0, 5), day % 10 == 9 ? 1 : day % 10 == 0 ? 2 : 0);
            x.pass(1);
        }
    }

    private static void halvesAreCutTowardZero() {
        int[] halves = {0, 0, 1, 1, 2, 49};
        int[] angers = {0, 1, 2, 3, 4, 99};
        for (int i = 0; i < angers.length; i++) {
            SaltPeace x = Due.under("wrong " + angers[i] + " k=1|k=4");
            SaltPeace y = Due.under("calm " + angers[i] + " k=1|k=4");
            Due.people(x, 1, 9, 0, 4, 2, 0);
            Due.people(y, 1, 9, 0, 4, 2, 0);
            Due.due("half of " + angers[i], x.of(0, 5), halves[i]);
            Due.due("half of -" + angers[i], y.of(0, 5), -halves[i]);
            Due.due("less v of " + angers[i], x.of(1, 5), halves[i] - 2);
            Due.due("less v of -" + angers[i], y.of(1, 5), -halves[i] - 2);
        }
    }

    private static void risesBelowZero() {
        SaltPeace x = Due.under("calm 99 p<9;calm 99 p<9;wrong 99 p=9;calm 99 p<9");
        Due.people(x, 0, 9, 0, 1, 9, 0, 2, 9, 0, 4, 9, 0, 5, 9, 0, 6, 9, 0);
        int[] rises = {-297, -148, -288, -157, -576, -297};
        for (int p = 0; p < 6; p++) {
            Due.due("RISES of " + p, x.of(p, 5), rises[p]);
            x.set(p, 1, 99);
        }
        x.pass(1);
        Due.due("no GRUDGE is below 0", x.told(5), 0);
    }

    private static void proudDays() {
        // v 0: every second DAY; v 8: every tenth; the DAY 0 is a multiple of all
        SaltPeace x = Due.under("calm 3 p<9");
        Due.people(x, 5, 0, 0, 5, 8, 1, 5, 9, 2);
        int[] every = {2, 10, 11};
        int[] bitter = {-3, 5, 6};
        for (int day = 0; day <= 22; day++) {
            for (int p = 0; p < 3; p++) {
                Due.due("PROUD " + p + " on " + day, x.of(p, 5), day % every[p] == 0 ? 2 * bitter[p] : bitter[p]);
            }
            x.pass(1);
        }
        x.set(0, 1, 80);
        Due.due("PROUD at 80", x.of(0, 6), 10);
        Due.due("PROUD takes at 80", x.of(0, 7), 10);
        x.set(0, 1, 81);
        Due.due("PROUD at 81", x.of(0, 6), 0);
        Due.due("PROUD takes at 81", x.of(0, 7), 0);
    }

    private static void thinAtTwenty() {
        int[] kinds = {3, 6};
        for (int kind : kinds) {
            SaltPeace x = Due.under("calm 8 p=0;wrong 8 p=1");
            Due.people(x, kind, 0, 5, kind, 0, 5);
            for (int salt = 0; salt <= 40; salt++) {
                x.salt(5, salt);
                Due.due("calm at " + salt, x.of(0, 5), salt < 20 ? 0 : -8);
                Due.due("wronged at " + salt, x.of(1, 5), salt < 20 ? 0 : 8);
            }
            // SALT is looked at ahead of the DAY's licking
            x.set(0, 1, 60);
            x.set(1, 1, 60);
            x.salt(5, 20);
            Due.due("ahead of the DAY", x.on(1, 1), 60 - 8 - 5 + 60 + 8 - 5);
        }
        SaltPeace told = Due.under("wrong 8 p<9");
        Due.people(told, 6, 0, 0);
        told.row(0, 0, 9);
        told.salt(0, 19);
        Due.due("the ROW still", told.of(0, 5), 9);
    }

    // ---- a DAY

    private static void takesTheLeastOfThree() {
        SaltPeace x = Due.under("need 2");
        Due.people(x, 0, 0, 0);
        int[][] grudgeSaltTakes = {{0, 999, 0}, {1, 999, 2}, {4, 999, 8}, {5, 999, 10}, {6, 999, 10}, {99, 999, 10},
            {99, 11, 10}, {99, 10, 10}, {99, 9, 9}, {99, 0, 0}, {2, 4, 4}, {2, 3, 3}, {2, 5, 4}};
        for (int[] each : grudgeSaltTakes) {
            x.set(0, 1, each[0]);
            x.salt(0, each[1]);
            Due.due("takes of GRUDGE " + each[0] + ", SALT " + each[1], x.of(0, 7), each[2]);
            Due.due("SALT then", x.on(1, 10), Math.max(0, each[1] - each[2] - 1));
            Due.due("GRUDGE then", x.on(1, 20), each[0] - each[2] / 2);
        }
    }

    private static void licksFromWhatIsLeft() {
        SaltPeace x = Made.hungry(0, 0, 3, 0, 0, 3, 0, 0, 3);
        int[][] saltEaten = {{30, 10, 10, 10}, {29, 10, 10, 9}, {20, 10, 10, 0}, {11, 10, 1, 0}, {10, 10, 0, 0},
            {1, 1, 0, 0}, {0, 0, 0, 0}};
        for (int[] each : saltEaten) {
            x.salt(3, each[0]);
            for (int p = 0; p < 3; p++) {
                Due.due("EATEN of " + p + " at " + each[0], x.on(1, 30 + p), each[1 + p]);
            }
            Due.due("SALT of " + each[0], x.on(1, 13), Math.max(0, each[0] - 30));
        }
    }

    private static void grudgeIsCutByNeed() {
        SaltPeace x = Due.under("need 5;rain 0");
        Due.people(x, 0, 0, 0);
        for (int salt = 0; salt <= 12; salt++) {
            x.salt(0, salt);
            x.set(0, 1, 50);
            Due.due("GRUDGE by " + salt, x.on(1, 20), 50 - Math.min(10, salt) / 5);
            Due.due("EATEN by " + salt, x.on(1, 30), Math.min(10, salt));
        }
    }

    private static void grudgesEnd() {
        SaltPeace x = Due.under("wrong 1 p=0;calm 1 p=1;wrong 2 p=2;calm 2 p=3");
        Due.people(x, 0, 0, 0, 0, 0, 0, 0, 0, 0, 0, 0, 0);
        x.salt(0, 0);
        int[][] ends = {{98, 99}, {99, 99}, {1, 0}, {0, 0}, {97, 99}, {98, 99}, {2, 0}, {1, 0}};
        int[] who = {0, 0, 1, 1, 2, 2, 3, 3};
        for (int i = 0; i < ends.length; i++) {
            x.set(who[i], 1, ends[i][0]);
            Due.due("GRUDGE of " + who[i] + " from " + ends[i][0], x.on(1, 20 + who[i]), ends[i][1]);
        }
        SaltPeace y = Due.under("wrong 99 p=0" + ";wrong 99 p=0".repeat(6));
        Due.people(y, 5, 9, 0);
        Due.due("RISES far above", y.of(0, 5), 2 * (7 * 99 + 9));
        y.pass(1);
        Due.due("99 at most", y.of(0, 3), 99);
    }

    private static void eatenEnds() {
        SaltPeace x = Made.hungry(2, 9, 0);
        for (int i = 0; i < 10; i++) {
            x.salt(0, 999);
            x.pass(35);
        }
        x.pass(0);
        x.salt(0, 196);
        x.pass(7);
        Due.due("EATEN", x.of(0, 4), 9996);
        Due.due("one a DAY", Due.treaty(x, "need 1;rain 0;calm 8 p=0"), 1);
        x.set(0, 1, 0);
        x.salt(0, 10);
        int[] eaten = {9997, 9998, 9999, 9999, 9999};
        for (int i = 0; i < eaten.length; i++) {
            Due.due("asked", x.on(1, 30), Math.min(9999, 9996 + i) + 1);
            x.pass(1);
            Due.due("EATEN behind " + i, x.of(0, 4), eaten[i]);
            Due.due("SALT goes on behind " + i, x.told(10), 9 - i);
        }
        Due.due("asked on none", x.on(0, 30), 9999);
        Due.due("asked on three", x.on(3, 30), 10002);
    }

    private static void rainEnds() {
        int[] rains = {0, 1, 99};
        for (int rain : rains) {
            SaltPeace x = Due.under("rain " + rain);
            Due.salts(x, 0, 1, 98, 99, 100, 999);
            x.pass(1);
            int[] salts = {0, 1, 98, 99, 100, 999};
            for (int side = 0; side < 6; side++) {
                Due.due("SALT " + side + " by " + rain, x.told(10 + side), Math.max(0, salts[side] - rain));
                x.salt(side, salts[side]);
                x.roof(side, true);
            }
            x.pass(1);
            Due.due("under ROOFS by " + rain, x.told(4), 1297);
        }
    }

    private static void warAtZero() {
        SaltPeace x = new SaltPeace();
        Due.salts(x, 1, 1, 1, 1, 1, 2);
        x.pass(1);
        Due.due("one SALT is PEACE", x.told(3), 0);
        x.pass(1);
        Due.due("none is WAR", x.told(3), 1);
        Due.due("DAY", x.told(0), 2);
        x.salt(0, 999);
        Due.due("DAYS go at WAR", x.pass(60), 939);
        Due.due("it stays so", x.told(3), 1);
        Due.due("DAY", x.told(0), 62);
        // by licking alone
        SaltPeace y = Made.hungry(0, 0, 2);
        Due.salts(y, 0, 0, 11, 0, 0, 0);
        y.pass(1);
        Due.due("one is left", y.told(3), 0);
        y.pass(1);
        Due.due("all is licked", y.told(3), 1);
        // no DAY, no WAR
        SaltPeace z = new SaltPeace();
        Due.salts(z, 0, 0, 0, 0, 0, 0);
        z.pass(0);
        Due.due("no DAY has gone", z.told(3), 0);
    }

    private static void daysEnd() {
        SaltPeace x = Made.late("rain 0", 0, 0, 0);
        Due.due("-1", x.pass(-1), BAD);
        Due.due("61", x.pass(61), BAD);
        Due.due("40", x.pass(40), STATE);
        Due.due("38", x.pass(38), 600);
        Due.due("DAY", x.told(0), 9998);
        Due.due("2", x.pass(2), STATE);
        Due.due("1", x.pass(1), 600);
        Due.due("DAY", x.told(0), 9999);
        Due.due("1 more", x.pass(1), STATE);
        Due.due("60 more", x.pass(60), STATE);
        Due.due("none more", x.pass(0), 600);
        Due.due("DAY stays", x.told(0), 9999);
    }

    private static void sixOfPeople() {
        SaltPeace x = new SaltPeace();
        for (int p = 0; p < 6; p++) {
            Due.due("not yet " + p, x.of(p, 0), -10001);
            Due.due("set of nobody", x.set(p, 1, 5), NONE);
            Due.due("comes " + p, x.person(p, 9 - p, 5 - p), p);
            x.set(p, 1, 10 + p);
        }
        Due.due("a seventh", x.person(0, 0, 0), FULL);
        Due.due("of the seventh", x.of(6, 0), -10001);
        Due.due("PEOPLE", x.count(0), 6);
        Due.due("GRUDGE of all", x.told(5), 75);
        for (int p = 0; p < 6; p++) {
            Due.due("KIND of " + p, x.of(p, 0), p);
            Due.due("v of " + p, x.of(p, 1), 9 - p);
            Due.due("SIDE of " + p, x.of(p, 2), 5 - p);
            Due.due("GRUDGE of " + p, x.of(p, 3), 10 + p);
        }
    }
}
