/** Promises 2 and 3: feed and treaty; the grammar, the FAULT, what a TREATY says. */
public final class TreatyTest {
    public static void main(String[] args) {
        feedTakesSigns();
        whole();
        faults();
        openOnes();
        clausesAtMost();
        newestHolds();
        five();
        testsSay();
        joints();
        Due.end("TreatyTest");
    }

    private static void feedTakesSigns() {
        SaltPeace x = new SaltPeace();
        Due.due("feed(-1)", x.feed(-1), SaltPeace.BAD);
        Due.due("feed(128)", x.feed(128), SaltPeace.BAD);
        Due.due("feed(MIN)", x.feed(Integer.MIN_VALUE), SaltPeace.BAD);
        Due.due("feed(0)", x.feed(0), 1);
        Due.due("feed(127)", x.feed(127), 2);
        for (int i = 3; i <= 100; i++) {
            Due.due("feed " + i, x.feed('r'), i);
        }
        Due.due("feed over 100", x.feed('r'), SaltPeace.FULL);
        Due.due("feed(128) over 100", x.feed(128), SaltPeace.BAD);
        Due.due("count(5)", x.count(5), 100);
        Due.due("treaty", x.treaty(), -10);
        Due.due("count(5)", x.count(5), 0);
        Due.due("feed", x.feed('r'), 1);
    }

    private static void is(String text) {
        SaltPeace x = new SaltPeace();
        Due.due("treaty " + text, Due.treaty(x, text), 0);
        Due.due("tape behind " + text, x.count(5), 0);
        Due.due("treaties behind " + text, x.count(1), 1);
    }

    private static void fault(String text, int place) {
        SaltPeace x = new SaltPeace();
        Due.due("treaty " + text, Due.treaty(x, text), -10 - place);
        Due.due("tape behind " + text, x.count(5), 0);
        Due.due("treaties behind " + text, x.count(1), 0);
    }

    private static void whole() {
        is("rain 0");
        is("rain 99");
        is("need 10;rain 1");
        is("wrong 0 p=0");
        is("calm 12 g>99|d<10&!s=5");
        is("wrong 1 (k=1|v=2)&(s=3|g=4)");
        is("wrong 1 !(p=1)");
        is("rain 1;rain 2;need 3;need 0;wrong 1 p=1;calm 1 p=1");
        // 100 bytes
        is("wrong 99 p=11|p=11|p=11|p=11|p=11|p=11|p=11|p=11|p=11|p=11|p=11|p=11|p=11|p=11|p=11|p=11|p=11|p=11|1"
            .substring(0, 99 - 1));
    }

    private static void faults() {
        fault("", 0);
        fault("x", 0);
        fault(" rain 1", 0);
        fault(";", 0);
        fault("r", 1);
        fault("rein 1", 1);
        fault("rain", 4);
        fault("rain1", 4);
        fault("rain ", 5);
        fault("rain  1", 5);
        fault("rain x", 5);
        fault("rain 01", 6);
        fault("rain 00", 6);
        fault("rain 123", 7);
        fault("rain 1 ", 6);
        fault("rain 1 p=1", 6);
        fault("rain 1;", 7);
        fault("rain 1;;", 7);
        fault("rain 1; need 1", 7);
        fault("rain -1", 5);
        fault("Rain 1", 0);
        fault("neeed 1", 3);
        fault("need 5&", 6);
        fault("wrong 1", 7);
        fault("wrong 1;", 7);
        fault("wrong 1 ", 8);
        fault("wrong 1  p=1", 8);
        fault("wrong 1 x", 8);
        fault("wrong 1 p", 9);
        fault("wrong 1 p!1", 9);
        fault("wrong 1 p=", 10);
        fault("wrong 1 p==1", 10);
        fault("wrong 1 p=x", 10);
        fault("wrong 1 p=01", 11);
        fault("wrong 1 p=123", 12);
        fault("wrong 1 p=1&", 12);
        fault("wrong 1 p=1&&p=1", 12);
        fault("wrong 1 p=1|", 12);
        fault("wrong 1 p=1|;", 12);
        fault("wrong 1 p=1)", 11);
        fault("wrong 1 p=1 ", 11);
        fault("wrong 1 (p=1", 12);
        fault("wrong 1 (p=1;", 12);
        fault("wrong 1 ()", 9);
        fault("wrong 1 !", 9);
        fault("wrong 1 !&", 9);
        fault("wrong 1 (p=1)p", 13);
        fault("wrong 1 (p=1)!", 13);
        fault("wrong 01 p=1", 7);
        fault("wrong p=1", 6);
        fault("calm 1 p=1;wrong 1 p=1;calm", 27);
        fault("clam 1 p=1", 1);
        // without a FAULT till the end of a full TAPE
        fault("wrong 99 p=11|p=11|p=11|p=11|p=11|p=11|p=11|p=11|p=11|p=11|p=11|p=11|p=11|p=11|p=11|p=11|p=11|p=11||"
            .substring(0, 99), 99);
    }

    private static void openOnes() {
        is("wrong 1 !!!!!p=1");
        fault("wrong 1 !!!!!!p=1", 13);
        is("wrong 1 (((((p=1)))))");
        fault("wrong 1 ((((((p=1))))))", 13);
        is("wrong 1 !(!(!p=1))");
        fault("wrong 1 !(!(!(p=1)))", 13);
        fault("wrong 1 !(!(!!p=1))", 13);
        // a ! is over with its F, a ( with its )
        is("wrong 1 !!!!!p=1&!!!!!p=1|!!!!!p=1");
        is("wrong 1 ((((p=1)|(p=1)&(p=1))))");
        is("wrong 1 (!p=1)&(!p=1)&(!p=1)&(!p=1)&(!p=1)&(!p=1)");
        is("wrong 1 !((((p=1))))&(((((p=2)))))");
        fault("wrong 1 !((((p=1|!p=2))))", 17);
    }

    private static void clausesAtMost() {
        is("rain 1;rain 1;rain 1;rain 1;rain 1;rain 1;rain 1;rain 1;rain 1;rain 1");
        fault("rain 1;rain 1;rain 1;rain 1;rain 1;rain 1;rain 1;rain 1;rain 1;rain 1;", 69);
        fault("rain 1;rain 1;rain 1;rain 1;rain 1;rain 1;rain 1;rain 1;rain 1;rain 1;rain 1", 69);
        SaltPeace x = Due.under("calm 1 p<9;wrong 2 p<9;wrong 1 p<9;rain 3;wrong 9 p<9;need 3;wrong 4 d=1;wrong 3 v=0");
        Due.people(x, 0, 0, 0);
        Due.due("all together", x.of(0, 5), 14);
    }

    private static void newestHolds() {
        SaltPeace x = Due.under("rain 5;need 7;rain 9;need 8");
        Due.due("the last rain", x.told(1), 9);
        Due.due("the last need", x.told(2), 8);
        Due.due("a FAULT", Due.treaty(x, "rain 3;need 4;rain"), -10 - 18);
        Due.due("RAIN held", x.told(1), 9);
        Due.due("NEED held", x.told(2), 8);
        Due.people(x, 0, 0, 0);
        Due.due("a FAULT behind a wrong", Due.treaty(x, "wrong 9 p=0;x"), -10 - 12);
        Due.due("no ANGER held", x.of(0, 5), 0);
        Due.due("another", Due.treaty(x, "wrong 9 p=0"), 1);
        Due.due("RAIN without", x.told(1), 1);
        Due.due("NEED without", x.told(2), 2);
        Due.due("ANGER", x.of(0, 5), 9);
        Due.due("one more", Due.treaty(x, "need 0;rain 0"), 2);
        Due.due("RAIN 0", x.told(1), 0);
        Due.due("NEED 1, if less", x.told(2), 1);
        Due.due("no ANGER any more", x.of(0, 5), 0);
    }

    private static void five() {
        SaltPeace x = new SaltPeace();
        for (int i = 0; i < 5; i++) {
            Due.due("treaty " + i, Due.treaty(x, "rain " + i), i);
        }
        Due.due("FULL, ahead of an empty TAPE", x.treaty(), SaltPeace.FULL);
        Due.feed(x, "bad");
        Due.due("FULL, ahead of a FAULT", x.treaty(), SaltPeace.FULL);
        Due.due("THE TAPE stays", x.count(5), 3);
        Due.due("feed goes on", x.feed('x'), 4);
        Due.due("the fifth holds", x.told(1), 4);
        Due.due("count(1)", x.count(1), 5);
    }

    private static void says(SaltPeace x, int person, String e, boolean want) {
        Due.due("image", x.image(), x.count(0));
        Due.due("treaty " + e, Due.treaty(x, "wrong 7 " + e), 0);
        Due.due("ANGER of " + person + " by " + e, x.of(person, 5), want ? 7 : 0);
        x.undo();
    }

    private static void threeSays(int person, char letter, int value) {
        for (int n = value - 1; n <= value + 1; n++) {
            SaltPeace x = new SaltPeace();
            Due.people(x, 3, 4, 0, 0, 3, 1, 0, 9, 5);
            x.set(2, 1, 47);
            x.set(1, 1, 99);
            x.pass(0);
            if (n >= 0) {
                says(x, person, letter + "<" + n, value < n);
                says(x, person, letter + "=" + n, value == n);
                says(x, person, letter + ">" + n, value > n);
            }
        }
    }

    private static void gByTen() {
        SaltPeace x = new SaltPeace();
        Due.people(x, 0, 0, 0);
        for (int grudge = 0; grudge <= 99; grudge += grudge % 10 == 0 ? 9 : 1) {
            x.set(0, 1, grudge);
            says(x, 0, "g=" + grudge / 10, true);
        }
    }

    private static void testsSay() {
        threeSays(0, 'p', 0);
        threeSays(2, 'p', 2);
        threeSays(0, 'k', 3);
        threeSays(1, 'k', 0);
        threeSays(1, 'v', 3);
        threeSays(2, 'v', 9);
        threeSays(2, 's', 5);
        threeSays(1, 's', 1);
        threeSays(2, 'g', 4);
        threeSays(1, 'g', 9);
        gByTen();
        threeSays(0, 'd', 0);
        SaltPeace x = new SaltPeace();
        Due.people(x, 0, 0, 0);
        x.pass(13);
        says(x, 0, "d=3", true);
        says(x, 0, "d=13", false);
        says(x, 0, "d<99", true);
    }

    private static void joints() {
        SaltPeace x = new SaltPeace();
        Due.people(x, 0, 0, 0);
        // p=0 is so, p=1 is not
        says(x, 0, "p=0|p=1", true);
        says(x, 0, "p=1|p=0", true);
        says(x, 0, "p=1|p=1", false);
        says(x, 0, "p=0&p=1", false);
        says(x, 0, "p=1&p=0", false);
        says(x, 0, "p=0&p=0", true);
        says(x, 0, "p=0|p=0&p=1", true);
        says(x, 0, "p=1&p=0|p=0", true);
        says(x, 0, "(p=0|p=0)&p=1", false);
        says(x, 0, "p=1&(p=0|p=0)", false);
        says(x, 0, "!p=0", false);
        says(x, 0, "!p=1", true);
        says(x, 0, "!!p=0", true);
        says(x, 0, "!p=1&p=1", false);
        says(x, 0, "!(p=1&p=1)", true);
        says(x, 0, "!p=0|p=0", true);
        says(x, 0, "!(p=0|p=0)", false);
        says(x, 0, "p=1|p=1|p=0", true);
        says(x, 0, "p=0&p=0&p=1", false);
        says(x, 0, "p=1|(p=1|(p=1|(p=1|(p=1|p=0))))", true);
        says(x, 0, "p=1|p=0&(p=1|p=0&(p=1|p=0&(p=1|p=0&(p=1|p=0&(p=1|p=0&p=0)))))", true);
        says(x, 0, "p=1|p=0&(p=1|p=0&(p=1|p=0&(p=1|p=0&(p=1|p=0&(p=1|p=0&p=1)))))", false);
    }
}
