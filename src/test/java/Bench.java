/** What the tests of the document's boundaries share: objects to begin with, and rows of answers. */
final class Bench {
    static final int BAD = -1;
    static final int NO = -2;
    static final int FULL = -3;
    static final int MIN = Integer.MIN_VALUE;
    static final int MAX = Integer.MAX_VALUE;

    final Check check = new Check();
    final Twins twins = new Twins(check);

    void due(String call, int got, int want) {
        check.due(call, got, want);
    }

    /** All repairs, in their order, and that there is none in front of them or behind them. */
    void repairs(String what, Counted x, int... want) {
        due(what + ": find", x.find(), want.length);
        for (int k = 0; k < want.length; k++) due(what + ": kept " + k, x.kept(k), want[k]);
        due(what + ": kept behind", x.kept(want.length), NO);
        due(what + ": kept in front", x.kept(-1), NO);
    }

    /** All least clashes, in their order, and that there is none in front of them or behind them. */
    void leasts(String what, Counted x, int... want) {
        for (int k = 0; k < want.length; k++) due(what + ": least " + k, x.least(k), want[k]);
        due(what + ": least behind", x.least(want.length), NO);
        due(what + ": least in front", x.least(-1), NO);
    }

    /** An object with this many defaults of rank 0 and weight 1. */
    static Counted defaults(int count) {
        Counted x = new Counted();
        for (int k = 0; k < count; k++) x.fact(false, 0, 1);
        return x;
    }

    static void blank(Counted x) {
    }

    /** Statement 0 hard, four defaults, four clashes, supports, order 2; room for more of all. */
    static void some(Counted x) {
        x.fact(true, 3, 500);
        x.fact(false, 1, 5);
        x.fact(false, 2, 7);
        x.fact(false, 2, 9);
        x.fact(false, 5, 1);
        x.clash(6);
        x.clash(10);
        x.clash(24);
        x.clash(32 | 1);
        x.support(0, 12);
        x.support(0, 4);
        x.support(7, 16);
        x.support(3, 32);
        x.order(2);
    }

    /** As many statements, clashes and supports as there can be; order 3. */
    static void full(Counted x) {
        for (int k = 0; k < 11; k++) x.fact(k == 4, k * 5 % 8, 1 + k * 400 % 1000);
        for (int k = 0; k < 40; k++) x.clash(3 << (k % 9) | 1 << ((k * 3 + 2) % 11));
        for (int k = 0; k < 20; k++) x.support(k % 7, 1 << (k % 11));
        x.order(3);
    }

    /** One clash, that of no statements: no repairs. */
    static void hopeless(Counted x) {
        some(x);
        x.clash(0);
    }
}
