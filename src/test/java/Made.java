/** Objects that tests begin with. */
final class Made {
    /** How many there are in a busy one. */
    static final int BUSY = 3;

    private Made() {
    }

    /** Grudges that stay at 99, and no rain: all lick as much as they may. */
    static SaltPeace hungry(int... kindVSide) {
        SaltPeace x = Due.under("rain 0;need 99;wrong 99 p<9");
        Due.people(x, kindVSide);
        return x;
    }

    /** Three people, the first and the last of them TOLD, and some of all that can be told; an image of less. */
    static SaltPeace busy() {
        SaltPeace x = Due.under("rain 2;need 3;wrong 20 p<9;calm 3 d=1");
        Due.people(x, 6, 4, 0, 5, 2, 1, 6, 1, 1);
        x.row(0, 1, 7);
        x.row(2, 3, 9);
        x.see(1, 100, 0);
        x.image();
        x.salt(5, 40);
        x.roof(4, true);
        x.pass(3);
        x.set(1, 1, 77);
        x.see(0, 50, 2);
        x.plan(2, 0);
        x.plan(0, 0);
        x.book(4, 100);
        x.book(5, 3);
        Due.feed(x, "rain 1;calm");
        x.act(2, 2, 11);
        return x;
    }

    /** No room for one more of anything. */
    static SaltPeace full() {
        SaltPeace x = Due.under("rain 2");
        for (int i = 1; i < 5; i++) {
            Due.due("treaty " + i, Due.treaty(x, "wrong 30 k<9;need " + i), i);
        }
        Due.people(x, 6, 0, 0, 1, 1, 1, 2, 2, 2, 3, 3, 3, 4, 4, 4, 6, 5, 5);
        for (int i = 0; i < 5; i++) {
            Due.due("see " + i, x.see(i, 98, 1), i + 1);
        }
        for (int i = 0; i < 8; i++) {
            Due.due("plan " + i, x.plan(2, i % 6), i + 1);
            Due.due("book " + i, x.book(i % 6, 100), i + 1);
        }
        for (int i = 0; i < 100; i++) {
            Due.due("feed " + i, x.feed("calm".charAt(i % 4)), i + 1);
        }
        return x;
    }

    /** One PERSON on DAY 9960. */
    static SaltPeace late(String treaty, int... kindVSide) {
        SaltPeace x = Due.under(treaty);
        Due.people(x, kindVSide);
        for (int i = 0; i < 166; i++) {
            x.pass(60);
        }
        Due.due("DAY", x.told(0), 9960);
        return x;
    }
}
