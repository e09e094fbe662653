/** Each promise of the document: ordinary inputs, the edges that it names, and wrong inputs. */
public final class PromisesTest {
    private static final int BAD = -1;
    private static final int NO = -2;
    private static final int FULL = -3;
    private static final int MIN = Integer.MIN_VALUE;
    private static final int MAX = Integer.MAX_VALUE;

    private static final Check CHECK = new Check();

    private static void due(String call, int got, int want) {
        CHECK.due(call, got, want);
    }

    /** An object with this many defaults of rank 0 and weight 1. */
    private static DefaultRepair defaults(int count) {
        DefaultRepair x = new DefaultRepair();
        for (int k = 0; k < count; k++) x.fact(false, 0, 1);
        return x;
    }

    private static void repairs(String what, DefaultRepair x, int... want) {
        due(what + ": find", x.find(), want.length);
        for (int k = 0; k < want.length; k++) due(what + ": kept " + k, x.kept(k), want[k]);
        due(what + ": kept beyond", x.kept(want.length), NO);
    }

    private static void leasts(String what, DefaultRepair x, int... want) {
        for (int k = 0; k < want.length; k++) due(what + ": least " + k, x.least(k), want[k]);
        due(what + ": least beyond", x.least(want.length), NO);
    }

    private static void promise1NewObject() {
        DefaultRepair x = new DefaultRepair();
        due("1 size", x.size(), 0);
        due("1 settle", x.settle(), NO);
        due("1 least", x.least(0), NO);
        repairs("1 only the empty set", x, 0);
        for (int answer = 0; answer < 8; answer++) due("1 truth " + answer, x.truth(answer), 0);
        // Order 0 keeps both; any other order would keep one of them alone.
        x.fact(false, 0, 1);
        x.fact(false, 1, 2);
        x.fact(false, 1, 2);
        x.clash(3);
        x.clash(5);
        repairs("1 order 0", x, 1, 6);
    }

    private static void promise2Fact() {
        DefaultRepair x = new DefaultRepair();
        due("2 rank -1", x.fact(false, -1, 1), BAD);
        due("2 rank 8", x.fact(false, 8, 1), BAD);
        due("2 rank least int", x.fact(true, MIN, 1), BAD);
        due("2 weight 0", x.fact(false, 0, 0), BAD);
        due("2 weight 1001", x.fact(true, 0, 1001), BAD);
        due("2 weight greatest int", x.fact(false, 0, MAX), BAD);
        due("2 bad ones are not there", x.size(), 0);
        for (int k = 0; k < 11; k++) {
            due("2 number " + k, x.fact(k % 2 == 0, k % 8, k == 0 ? 1000 : k), k);
        }
        due("2 full", x.fact(false, 7, 1000), FULL);
        due("2 bad goes before full", x.fact(false, 8, 1), BAD);
        due("2 bad goes before full", x.fact(false, 0, 0), BAD);
        due("2 none more", x.size(), 11);
        DefaultRepair hard = new DefaultRepair();
        hard.fact(true, 0, 1);
        hard.fact(false, 0, 1);
        hard.clash(3);
        repairs("2 hard", hard, 1);
    }

    private static void promise3Harden() {
        DefaultRepair x = defaults(2);
        x.clash(3);
        repairs("3 before", x, 1, 2);
        due("3 was a default", x.harden(1, false), 0);
        due("3 hardened", x.harden(1, true), 1);
        due("3 was hard", x.harden(1, true), 0);
        repairs("3 hard", x, 2);
        due("3 both hard", x.harden(0, true), 1);
        repairs("3 hard ones clash", x);
        due("3 a default again", x.harden(1, false), 1);
        repairs("3 other one hard", x, 1);
        due("3 no statement 2", x.harden(2, true), BAD);
        due("3 no statement -1", x.harden(-1, false), BAD);
        due("3 no statement 32", x.harden(32, true), BAD);
        due("3 no least int", x.harden(MIN, true), BAD);
        due("3 no greatest int", x.harden(MAX, true), BAD);
        repairs("3 the bad ones change nothing", x, 1);
    }

    private static void promise4Weight() {
        DefaultRepair x = defaults(2);
        x.clash(3);
        x.order(3);
        repairs("4 as heavy", x, 1, 2);
        due("4 heavier", x.weight(1, 7, 1000), 1);
        repairs("4 heavier", x, 2);
        x.order(2);
        repairs("4 lower rank", x, 1);
        due("4 the same again", x.weight(1, 7, 1000), 1);
        due("4 rank 0, weight 1", x.weight(1, 0, 1), 1);
        repairs("4 the same rank", x, 1, 2);
        due("4 rank -1", x.weight(0, -1, 5), BAD);
        due("4 rank 8", x.weight(0, 8, 5), BAD);
        due("4 weight 0", x.weight(0, 5, 0), BAD);
        due("4 weight 1001", x.weight(0, 5, 1001), BAD);
        due("4 no statement 2", x.weight(2, 0, 1), BAD);
        due("4 no statement -1", x.weight(-1, 0, 1), BAD);
        due("4 no greatest int", x.weight(MAX, 0, 1), BAD);
        repairs("4 the bad ones change no rank", x, 1, 2);
        x.order(3);
        repairs("4 the bad ones change no weight", x, 1, 2);
        due("4 of a hard one", x.harden(0, true) + x.weight(0, 3, 9), 2);
        due("4 hard ones are not compared", x.better(1, 0, 3), 0);
        x.harden(0, false);
        due("4 but it has the weight later", x.better(1, 2, 3), 1);
        due("4 and the rank", x.better(1, 2, 1), 0);
    }

    private static void promise5Clash() {
        DefaultRepair x = defaults(2);
        due("5 first", x.clash(3), 1);
        due("5 same again", x.clash(3), 2);
        due("5 with a statement that is not there", x.clash(4 | 1), 3);
        repairs("5 none yet", x, 1, 2);
        leasts("5 none yet", x, 3);
        x.fact(false, 0, 1);
        repairs("5 now it is there", x, 1, 6);
        leasts("5 now it is there", x, 3, 5);
        due("5 lowest 11 bits", x.clash(2048 | 4), 4);
        repairs("5 lowest 11 bits", x, 1, 2);
        due("5 negative bits", x.clash(MIN | 2), 5);
        repairs("5 negative bits", x, 1);
        due("5 nothing left in 11 bits", x.clash(4096), 6);
        repairs("5 that of no statements", x);
        DefaultRepair full = new DefaultRepair();
        for (int k = 1; k <= 40; k++) due("5 how many " + k, full.clash(k), k);
        due("5 full", full.clash(1), FULL);
        due("5 full for ever", full.clash(0), FULL);
        repairs("5 refused ones do not count", full, 0);
        full.settle();
        due("5 room again", full.clash(0), 40);
        repairs("5 empty clash", full);
    }

    private static void promise6Settle() {
        DefaultRepair x = defaults(3);
        x.clash(3);
        x.clash(6);
        x.clash(0);
        repairs("6 three", x);
        due("6 two left", x.settle(), 2);
        repairs("6 two", x, 2, 5);
        due("6 one left", x.settle(), 1);
        repairs("6 one", x, 5, 6);
        due("6 none left", x.settle(), 0);
        repairs("6 none", x, 7);
        due("6 no more", x.settle(), NO);
        due("6 no more again", x.settle(), NO);
        due("6 counted from 0", x.clash(1), 1);
    }

    private static void promise7Support() {
        DefaultRepair x = defaults(2);
        due("7 first", x.support(0, 1), 1);
        due("7 other answer", x.support(7, 2), 1);
        due("7 second", x.support(0, 1), 2);
        due("7 no answer 8", x.support(8, 1), BAD);
        due("7 no answer -1", x.support(-1, 1), BAD);
        due("7 no greatest int", x.support(MAX, 1), BAD);
        due("7 high bits are cut", x.support(1, MIN | 2048 | 1), 1);
        due("7 so it holds", x.truth(1), 2);
        for (int k = 1; k <= 16; k++) due("7 how many " + k, x.support(3, 1024), k);
        due("7 full", x.support(3, 1), FULL);
        due("7 full for all", x.support(5, 0), FULL);
        due("7 bad goes before full", x.support(8, 0), BAD);
        due("7 refused ones do not count", x.truth(3) + x.truth(5), 0);
    }

    private static void promise8Order() {
        DefaultRepair x = new DefaultRepair();
        // Statements 0, 1, 2 of rank 0, 1, 1 and weight 1, 2, 3, and 3 of rank 0 and weight 9.
        x.fact(false, 0, 1);
        x.fact(false, 1, 2);
        x.fact(false, 1, 3);
        x.fact(false, 0, 9);
        x.clash(1 | 8);
        x.clash(2 | 8);
        x.clash(4 | 8);
        x.clash(2 | 4);
        repairs("8 order 0", x, 3, 5, 8);
        due("8 to 1", x.order(1), 1);
        repairs("8 order 1", x, 3, 5, 8);
        due("8 to 2", x.order(2), 1);
        repairs("8 order 2", x, 3, 5);
        due("8 to 3", x.order(3), 1);
        repairs("8 order 3", x, 8);
        due("8 order 4", x.order(4), BAD);
        due("8 order -1", x.order(-1), BAD);
        due("8 order least int", x.order(MIN), BAD);
        repairs("8 still order 3", x, 8);
        due("8 the same again", x.order(3), 1);
        due("8 back to 0", x.order(0), 1);
        repairs("8 order 0 again", x, 3, 5, 8);
    }

    private static void promise9Find() {
        // Three triples and a pair, of each of which one statement alone can be kept: 3 * 3 * 3 * 2.
        DefaultRepair x = defaults(11);
        due("9 no clash", x.find(), 1);
        for (int from = 0; from < 9; from += 3) {
            x.clash(3 << from);
            x.clash(5 << from);
            x.clash(6 << from);
        }
        x.clash(3 << 9);
        due("9 three triples and a pair", x.find(), 54);
        for (int order = 1; order < 4; order++) {
            x.order(order);
            due("9 by order " + order, x.find(), 54);
        }
        x.clash(0);
        due("9 none", x.find(), 0);
        // By order 1 the higher rank goes first, also where the lower ones then lose all.
        DefaultRepair y = new DefaultRepair();
        y.fact(false, 7, 1000);
        y.fact(false, 7, 1000);
        y.fact(false, 0, 1);
        y.clash(5);
        y.clash(6);
        y.order(1);
        repairs("9 order 1", y, 4);
        y.order(2);
        repairs("9 order 2", y, 4);
        y.order(3);
        repairs("9 order 3", y, 3);
        y.order(0);
        repairs("9 order 0", y, 3, 4);
    }

    private static void promise10Kept() {
        DefaultRepair x = defaults(4);
        x.harden(2, true);
        x.clash(3);
        x.clash(12);
        repairs("10 hard bits too", x, 5, 6);
        due("10 -1", x.kept(-1), NO);
        due("10 2", x.kept(2), NO);
        due("10 least int", x.kept(MIN), NO);
        due("10 greatest int", x.kept(MAX), NO);
        DefaultRepair all = defaults(11);
        repairs("10 all of eleven", all, 2047);
        all.clash(2047);
        repairs("10 each without one", all, 1023, 1535, 1791, 1919, 1983, 2015, 2031, 2039, 2043, 2045, 2046);
    }

    private static void promise11Left() {
        DefaultRepair x = defaults(5);
        x.clash(2);
        x.clash(16);
        x.clash(5);
        repairs("11", x, 9, 12);
        due("11 first", x.left(0, 0), 1);
        due("11 second", x.left(0, 1), 2);
        due("11 third", x.left(0, 2), 4);
        due("11 no fourth", x.left(0, 3), NO);
        due("11 other repair", x.left(1, 0), 0);
        due("11 other repair", x.left(1, 1), 1);
        due("11 i -1", x.left(0, -1), NO);
        due("11 i least int", x.left(0, MIN), NO);
        due("11 i greatest int", x.left(0, MAX), NO);
        due("11 repair -1", x.left(-1, 0), NO);
        due("11 repair 2", x.left(2, 0), NO);
        due("11 repair greatest int", x.left(MAX, 0), NO);
        due("11 nothing left", defaults(3).left(0, 0), NO);
        x.clash(0);
        due("11 no repairs", x.left(0, 0), NO);
    }

    private static void promise12Truth() {
        DefaultRepair x = defaults(4);
        x.clash(3);
        x.support(0, 1);
        x.support(1, 1);
        x.support(1, 2);
        x.support(2, 3);
        x.support(3, 4 | 8);
        x.support(4, 0);
        x.support(5, 16);
        due("12 in some", x.truth(0), 1);
        due("12 in all, by two supports", x.truth(1), 2);
        due("12 in none", x.truth(2), 0);
        due("12 in all, by one", x.truth(3), 2);
        due("12 of nothing", x.truth(4), 2);
        due("12 of a statement that is not there", x.truth(5), 0);
        due("12 without a support", x.truth(7), 0);
        due("12 answer 8", x.truth(8), BAD);
        due("12 answer -1", x.truth(-1), BAD);
        due("12 least int", x.truth(MIN), BAD);
        x.fact(false, 0, 1);
        due("12 of one that is there now", x.truth(5), 2);
        x.clash(0);
        due("12 no repairs", x.truth(4), NO);
        due("12 no repairs, no supports", x.truth(7), NO);
        due("12 no such answer, no repairs", x.truth(8), BAD);
    }

    private static void promise13Surely() {
        DefaultRepair x = defaults(4);
        x.clash(3);
        x.clash(8);
        due("13 in some", x.surely(0), 1);
        due("13 in some", x.surely(1), 1);
        due("13 in all", x.surely(2), 2);
        due("13 in none", x.surely(3), 0);
        due("13 no statement 4", x.surely(4), BAD);
        due("13 no statement -1", x.surely(-1), BAD);
        due("13 no statement 34", x.surely(34), BAD);
        due("13 least int", x.surely(MIN), BAD);
        x.harden(3, true);
        due("13 no repairs", x.surely(2), NO);
        due("13 no such statement, no repairs", x.surely(4), BAD);
    }

    private static void promise14Better() {
        DefaultRepair x = new DefaultRepair();
        x.fact(false, 0, 1);
        x.fact(false, 1, 2);
        x.fact(false, 1, 3);
        x.fact(false, 2, 1000);
        x.fact(true, 0, 1000);
        due("14 order 0, more", x.better(7, 3, 0), 1);
        due("14 order 0, the same", x.better(7, 7, 0), 0);
        due("14 order 0, less", x.better(3, 7, 0), 0);
        due("14 order 0, other ones", x.better(7, 8, 0), 0);
        due("14 order 0, a hard one more", x.better(16, 0, 0), 1);
        due("14 order 1, higher rank", x.better(1, 14, 1), 1);
        due("14 order 1, lower rank", x.better(14, 1, 1), 0);
        due("14 order 1, part in rank 1", x.better(7, 3 | 8, 1), 1);
        due("14 order 1, no parts of each other", x.better(2, 4, 1), 0);
        due("14 order 1, nor the other way", x.better(4 | 8, 2, 1), 0);
        due("14 order 1, the same", x.better(9, 9, 1), 0);
        due("14 order 1, a hard one does not count", x.better(16, 0, 1), 0);
        due("14 order 2, as many, then more", x.better(2 | 8, 4, 2), 1);
        due("14 order 2, as many", x.better(2, 4, 2), 0);
        due("14 order 2, higher rank", x.better(1, 14, 2), 1);
        due("14 order 2, fewer", x.better(2 | 8, 6, 2), 0);
        due("14 order 2, a hard one does not count", x.better(16, 0, 2), 0);
        due("14 order 3, heavier", x.better(4, 2, 3), 1);
        due("14 order 3, as heavy", x.better(3, 4, 3), 0);
        due("14 order 3, lighter", x.better(7, 8, 3), 0);
        due("14 order 3, a hard one does not count", x.better(16, 1, 3), 0);
        for (int order = 0; order < 4; order++) {
            due("14 bits of no statements, " + order, x.better(1 | 32 | 2048 | MIN, 1, order), 0);
            due("14 bits of no statements, " + order, x.better(3, 1 | 32 | 2048 | MIN, order), 1);
        }
        x.clash(0);
        due("14 sets that are not kept", x.better(7, 3, 0), 1);
        due("14 order 4", x.better(7, 3, 4), BAD);
        due("14 order -1", x.better(7, 3, -1), BAD);
        due("14 order least int", x.better(7, 3, MIN), BAD);
        due("14 the order in force stays", x.order(0) + x.better(1, 2, 3), 1);
        manyOfOneRank();
    }

    private static void manyOfOneRank() {
        DefaultRepair x = new DefaultRepair();
        x.fact(false, 6, 1);
        for (int k = 0; k < 10; k++) x.fact(false, 7, 1000);
        due("14 ten of rank 7 against one of rank 6", x.better(2046, 1, 2), 0);
        due("14 one of rank 6 against ten of rank 7", x.better(1, 2046, 2), 1);
        due("14 the greatest sum", x.better(2046, 1023, 3), 1);
        x.weight(0, 0, 1);
        due("14 one of rank 0 against ten of rank 7", x.better(1, 2046, 2), 1);
        due("14 ten of rank 7 against one of rank 0", x.better(2046, 1, 2), 0);
    }

    private static void promise15Least() {
        DefaultRepair x = defaults(5);
        x.clash(24);
        x.clash(7);
        x.clash(3);
        x.clash(24);
        x.clash(12);
        x.clash(28);
        leasts("15 each once, sorted, without those that have others", x, 3, 12, 24);
        due("15 -1", x.least(-1), NO);
        due("15 least int", x.least(MIN), NO);
        due("15 greatest int", x.least(MAX), NO);
        x.clash(32 | 1);
        leasts("15 with a statement that is not there", x, 3, 12, 24);
        x.fact(false, 0, 1);
        leasts("15 with one that is there now", x, 3, 12, 24, 33);
        x.clash(0);
        leasts("15 that of no statements", x, 0);
        x.settle();
        x.clash(1);
        leasts("15 a part of two", x, 1, 12, 24);
        DefaultRepair many = defaults(11);
        int[] pairs = new int[40];
        int count = 0;
        for (int high = 1; high < 11; high++) {
            for (int low = 0; low < high && count < 40; low++) pairs[count++] = 1 << high | 1 << low;
        }
        for (int k = 39; k >= 0; k--) many.clash(pairs[k]);
        leasts("15 forty", many, pairs);
    }

    private static void promise16Size() {
        DefaultRepair x = new DefaultRepair();
        for (int k = 0; k <= 11; k++) {
            due("16 size " + k, x.size(), k);
            x.fact(k % 3 == 0, 0, 1);
        }
        due("16 when full", x.size(), 11);
        x.harden(0, false);
        x.clash(1);
        due("16 after other calls", x.size(), 11);
    }

    public static void main(String[] args) {
        promise1NewObject();
        promise2Fact();
        promise3Harden();
        promise4Weight();
        promise5Clash();
        promise6Settle();
        promise7Support();
        promise8Order();
        promise9Find();
        promise10Kept();
        promise11Left();
        promise12Truth();
        promise13Surely();
        promise14Better();
        promise15Least();
        promise16Size();
        CHECK.end();
    }
}
