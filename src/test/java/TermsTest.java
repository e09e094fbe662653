import java.util.function.ToIntFunction;

/** The sentences of "What it is" and "Terms" that name a boundary, each with a test of its own. */
public final class TermsTest {
    private static final int BAD = Bench.BAD;
    private static final int NO = Bench.NO;
    private static final int FULL = Bench.FULL;
    private static final int MIN = Bench.MIN;
    private static final int MAX = Bench.MAX;

    private static final Bench BENCH = new Bench();

    private static void due(String call, int got, int want) {
        BENCH.due(call, got, want);
    }

    /** "An object is used for at most 512 calls after it has been made": the 512th is as good as the first. */
    private static void calls512() {
        Counted x = Bench.defaults(11);
        for (int pair = 0; pair < 10; pair++) x.clash(3 << pair);
        int rounds = 0;
        while (x.calls() <= Counted.MOST_CALLS - 7) {
            due("512: order", x.order(rounds % 4), 1);
            // Every second one of the eleven, and nothing heavier than these.
            due("512: find", x.find(), rounds % 4 < 2 ? 21 : 1);
            due("512: kept", x.kept(0), rounds % 4 < 2 ? 0b01001001001 : 0b10101010101);
            due("512: clash", x.clash(0), 11);
            due("512: find none", x.find(), 0);
            due("512: settle", x.settle(), 10);
            rounds++;
        }
        while (x.calls() < Counted.MOST_CALLS - 1) x.size();
        due("512: the 512th", x.find(), (rounds - 1) % 4 < 2 ? 21 : 1);
        due("512: so many were made", x.calls(), 512);
        lastCalls();
    }

    private static void lastCalls() {
        lastCall("fact", x -> x.fact(false, 0, 1), 10);
        lastCall("harden", x -> x.harden(0, true), 1);
        lastCall("weight", x -> x.weight(0, 7, 1000), 1);
        lastCall("clash", x -> x.clash(0), 2);
        lastCall("settle", x -> x.settle(), 0);
        lastCall("support", x -> x.support(7, 1), 1);
        lastCall("order", x -> x.order(3), 1);
        lastCall("find", x -> x.find(), 2);
        lastCall("kept", x -> x.kept(1), 1022);
        lastCall("left", x -> x.left(0, 0), 1);
        lastCall("truth", x -> x.truth(0), 0);
        lastCall("surely", x -> x.surely(0), 1);
        lastCall("better", x -> x.better(3, 1, 3), 1);
        lastCall("least", x -> x.least(0), 3);
        lastCall("size", x -> x.size(), 10);
    }

    private static void lastCall(String what, ToIntFunction<Counted> last, int want) {
        Counted x = Bench.defaults(10);
        x.clash(3);
        while (x.calls() < Counted.MOST_CALLS - 1) x.find();
        due("512: as the 512th, " + what, last.applyAsInt(x), want);
    }

    /** "what later calls answer is free": but no call may throw. */
    private static void callsBehind512() {
        DefaultRepair x = new DefaultRepair();
        for (int call = 0; call < 2000; call++) {
            x.fact(call % 5 == 0, call % 9, call);
            x.clash(call * 7);
            x.support(call % 9, call);
            x.order(call % 5);
            x.find();
            x.left(call % 3, call % 12);
            x.truth(call % 9);
            x.surely(call % 12);
            x.least(call % 41);
            if (call % 3 == 0) x.settle();
        }
        BENCH.check.isTrue("behind 512: no call threw", true);
    }

    /** "STATEMENTS are numbered from 0, at most 11" */
    private static void statements() {
        Counted x = new Counted();
        for (int k = 0; k < 11; k++) due("statement " + k, x.fact(false, 0, 1), k);
        due("statement 11", x.fact(false, 0, 1), FULL);
        due("eleven of them", x.size(), 11);
        due("statement 0 is there", x.surely(0), 2);
        due("statement 10 is there", x.surely(10), 2);
        due("statement 11 is not", x.surely(11), BAD);
        due("statement -1 is not", x.surely(-1), BAD);
    }

    /** "each is HARD or a DEFAULT" */
    private static void hardOrDefault() {
        Counted x = new Counted();
        x.fact(true, 0, 1);
        x.fact(false, 0, 1);
        due("it is hard", x.harden(0, true), 0);
        due("it is a default", x.harden(1, false), 0);
    }

    /** "has a RANK, 0 (the highest) .. 7": each rank goes before the one behind it, by orders 1 and 2. */
    private static void ranks() {
        for (int rank = 0; rank < 7; rank++) {
            Counted x = new Counted();
            due("rank " + rank, x.fact(false, rank, 1), 0);
            due("rank " + (rank + 1), x.fact(false, rank + 1, 1000), 1);
            x.clash(3);
            for (int order = 1; order <= 2; order++) {
                x.order(order);
                BENCH.repairs("rank " + rank + " by order " + order, x, 1);
            }
        }
        for (int wrong : new int[] {-1, 8, MIN, MAX}) {
            due("no rank " + wrong, new Counted().fact(false, wrong, 1), BAD);
        }
    }

    /** "and a WEIGHT, 1 .. 1000" */
    private static void weights() {
        Counted x = new Counted();
        due("weight 1", x.fact(false, 0, 1), 0);
        due("weight 1000", x.fact(false, 0, 1000), 1);
        due("weight 999", x.fact(false, 0, 999), 2);
        due("1000 is more than 999", x.better(2, 4, 3), 1);
        due("1000 is as much as 999 and 1", x.better(2, 5, 3), 0);
        due("999 and 1 is as much as 1000", x.better(5, 2, 3), 0);
        for (int wrong : new int[] {0, 1001, -1, MIN, MAX}) {
            due("no weight " + wrong, x.fact(false, 0, wrong), BAD);
        }
    }

    /** "(hard ones are not compared by them)" */
    private static void hardOnesAreNotCompared() {
        Counted x = new Counted();
        x.fact(true, 0, 1000);
        x.fact(false, 7, 1);
        for (int order = 1; order < 4; order++) {
            due("a hard one is no more, order " + order, x.better(1, 0, order), 0);
            due("a default is more, order " + order, x.better(2, 1, order), 1);
            due("a hard one is no less, order " + order, x.better(1, 2, order), 0);
        }
        x.harden(0, false);
        for (int order = 1; order < 4; order++) due("as a default it is", x.better(1, 2, order), 1);
    }

    /** "SETS of statements are bits: bit i for statement i." */
    private static void sets() {
        Counted x = Bench.defaults(11);
        for (int statement = 0; statement < 11; statement++) {
            x.clash(1 << statement);
            BENCH.repairs("all but " + statement, x, 2047 ^ 1 << statement);
            due("without " + statement, x.left(0, 0), statement);
            x.settle();
        }
    }

    /** "CLASHES are sets, at most 40" */
    private static void clashes() {
        Counted x = Bench.defaults(2);
        for (int k = 1; k < 40; k++) due("clash " + k, x.clash(3), k);
        due("the 40th", x.clash(1), 40);
        BENCH.repairs("the 40th counts", x, 2);
        due("the 41st", x.clash(2), FULL);
        BENCH.repairs("the 41st does not", x, 2);
    }

    /** "(one with a statement that is not there is none yet)" */
    private static void clashesThatAreNoneYet() {
        Counted x = Bench.defaults(10);
        due("it is counted", x.clash(1024), 1);
        due("and so is one with others", x.clash(1024 | 3), 2);
        BENCH.repairs("none yet", x, 1023);
        BENCH.leasts("none yet", x);
        x.fact(false, 0, 1);
        BENCH.repairs("now it is one", x, 1023);
        BENCH.leasts("now it is one", x, 1024);
        due("the latest goes", x.settle(), 1);
        due("and the first one", x.settle(), 0);
        BENCH.repairs("none any more", x, 2047);
    }

    /** "that of no statements leaves nothing to be kept" */
    private static void clashOfNoStatements() {
        for (int count = 0; count <= 11; count += 11) {
            Counted x = Bench.defaults(count);
            BENCH.repairs("without it, " + count, x, (1 << count) - 1);
            x.clash(0);
            for (int order = 0; order < 4; order++) {
                x.order(order);
                BENCH.repairs("nothing of " + count + " by order " + order, x);
            }
            BENCH.leasts("it is a clash, " + count, x, 0);
            x.settle();
            BENCH.repairs("without it again, " + count, x, (1 << count) - 1);
        }
    }

    /** "A KEPT set has all hard statements" */
    private static void keptHasAllHard() {
        Counted x = Bench.defaults(11);
        for (int statement = 0; statement < 11; statement++) x.harden(statement, true);
        for (int order = 0; order < 4; order++) {
            x.order(order);
            BENCH.repairs("all hard, order " + order, x, 2047);
        }
        x.clash(1 << 10);
        for (int order = 0; order < 4; order++) {
            x.order(order);
            BENCH.repairs("all hard, and one alone clashes, order " + order, x);
        }
        x.harden(10, false);
        BENCH.repairs("but not a hard one", x, 1023);
    }

    /** "and not all of any clash" */
    private static void keptHasNotAllOfAClash() {
        Counted x = Bench.defaults(3);
        x.clash(7);
        BENCH.repairs("all but one", x, 3, 5, 6);
        x.clash(3);
        BENCH.repairs("of two clashes", x, 5, 6);
        x.harden(0, true);
        x.harden(1, true);
        BENCH.repairs("all of a clash is hard", x);
    }

    /** "by order 0 when it has all that the other one has, and more." */
    private static void order0() {
        Counted x = Bench.defaults(3);
        due("0: all and more", x.better(3, 1, 0), 1);
        due("0: all and no more", x.better(3, 3, 0), 0);
        due("0: more but not all", x.better(6, 1, 0), 0);
        due("0: more than nothing", x.better(1, 0, 0), 1);
        due("0: nothing and nothing", x.better(0, 0, 0), 0);
    }

    /** "By order 1 when, for the highest rank in which they do not have the same defaults, it has all .. and more." */
    private static void order1() {
        Counted x = new Counted();
        for (int k = 0; k < 10; k++) x.fact(false, k < 2 ? 0 : k < 4 ? 6 : 7, 1);
        due("1: the same", x.better(1023, 1023, 1), 0);
        due("1: more in rank 0, less in the others", x.better(3, 1022, 1), 1);
        due("1: less in rank 0", x.better(1022, 3, 1), 0);
        due("1: others in rank 0, all of the others", x.better(1021, 2, 1), 0);
        due("1: the same in rank 0, more in 6, less in 7", x.better(3 | 12, 3 | 4 | 1008, 1), 1);
        due("1: the same but in rank 7", x.better(1023, 511, 1), 1);
        due("1: less in rank 7", x.better(511, 1023, 1), 0);
        due("1: neither has one of rank 0 or 6", x.better(16, 0, 1), 1);
    }

    /** "By order 2 when, for the highest rank in which they do not have as many, it has more there." */
    private static void order2() {
        Counted x = new Counted();
        x.fact(false, 0, 1);
        x.fact(false, 0, 1);
        x.fact(false, 6, 1);
        for (int k = 3; k < 11; k++) x.fact(false, 7, 1000);
        due("2: as many", x.better(1, 2, 2), 0);
        due("2: as many of rank 0, more of 6", x.better(1 | 4, 2 | 2040, 2), 1);
        due("2: as many of rank 0 and 6, more of 7", x.better(1 | 4 | 8, 2 | 4, 2), 1);
        due("2: one of rank 6 against eight of rank 7", x.better(4, 2040, 2), 1);
        due("2: eight of rank 7 against one of rank 6", x.better(2040, 4, 2), 0);
        due("2: one of rank 0 against all the others", x.better(1, 2044, 2), 1);
        due("2: all the others against one of rank 0", x.better(2044, 1, 2), 0);
        oneRankAlone();
    }

    /** As many as there can be in one rank, against one of the rank above it, for each rank. */
    private static void oneRankAlone() {
        for (int rank = 0; rank < 7; rank++) {
            Counted x = new Counted();
            x.fact(false, rank, 1);
            for (int k = 1; k < 11; k++) x.fact(false, rank + 1, 1000);
            due("2: one of rank " + rank + " against ten below", x.better(1, 2046, 2), 1);
            due("2: ten below against one of rank " + rank, x.better(2046, 1, 2), 0);
        }
    }

    /** "By order 3 when the weights of its defaults have the greater sum." */
    private static void order3() {
        Counted x = new Counted();
        for (int k = 0; k < 10; k++) x.fact(false, 7, 1000);
        x.fact(false, 0, 999);
        due("3: the greatest sum", x.better(2047, 1023, 3), 1);
        due("3: greater by one", x.better(1, 1024, 3), 1);
        due("3: less by one", x.better(1024, 1, 3), 0);
        due("3: the same sum", x.better(1, 2, 3), 0);
        due("3: nothing against nothing", x.better(0, 0, 3), 0);
    }

    /** "REPAIRS by an order are the kept sets than which none is better" */
    private static void repairsAreBest() {
        Counted x = Bench.defaults(3);
        x.clash(1 | 2);
        x.clash(1 | 4);
        BENCH.repairs("by order 0", x, 1, 6);
        x.order(2);
        BENCH.repairs("by order 2", x, 6);
        x.order(3);
        BENCH.repairs("by order 3", x, 6);
        x.weight(0, 0, 2);
        BENCH.repairs("by order 3, the same sums", x, 1, 6);
        x.weight(0, 0, 3);
        BENCH.repairs("by order 3, the greater one", x, 1);
        x.clash(7);
        BENCH.repairs("a clash that has others changes nothing", x, 1);
        x.order(1);
        BENCH.repairs("by order 1", x, 1, 6);
        x.weight(0, 1, 1);
        BENCH.repairs("by order 1, a lower rank", x, 6);
    }

    /** "numbered from 0 by their bits (the least number first)" */
    private static void repairsAreSorted() {
        Counted x = Bench.defaults(11);
        for (int one = 0; one < 10; one += 2) x.clash(3 << one);
        int last = -1;
        due("as many as ways to choose", x.find(), 32);
        for (int k = 0; k < 32; k++) {
            int bits = x.kept(k);
            BENCH.check.isTrue("repair " + k + ", " + bits + ", is behind " + last, bits > last);
            last = bits;
        }
        due("the first", x.kept(0), 0b10101010101);
        due("the last", x.kept(31), 0b11010101010);
        due("none behind", x.kept(32), NO);
    }

    /** "ANSWERS, at most 8, numbered from 0" */
    private static void answers() {
        Counted x = Bench.defaults(1);
        for (int answer = 0; answer < 8; answer++) {
            due("answer " + answer, x.support(answer, 1), 1);
            due("answer " + answer + " holds", x.truth(answer), 2);
        }
        for (int wrong : new int[] {-1, 8, MIN, MAX}) {
            due("no answer " + wrong, x.support(wrong, 1), BAD);
            due("no truth of " + wrong, x.truth(wrong), BAD);
        }
    }

    /** "have SUPPORTS, sets, at most 20 in all" */
    private static void supports() {
        Counted one = Bench.defaults(2);
        for (int k = 1; k < 20; k++) due("support " + k, one.support(0, 4), k);
        due("none of them holds", one.truth(0), 0);
        due("the 20th of one answer", one.support(0, 1), 20);
        due("the 20th counts", one.truth(0), 2);
        due("the 21st", one.support(0, 1), FULL);
        due("the 21st, of another answer", one.support(7, 1), FULL);
        due("the 21st does not count", one.truth(7), 0);
        Counted all = Bench.defaults(1);
        for (int k = 0; k < 20; k++) due("support " + k + " in all", all.support(k % 8, 1), 1 + k / 8);
        for (int answer = 0; answer < 8; answer++) due("full for " + answer, all.support(answer, 1), FULL);
    }

    /** "an answer HOLDS in a set that has all of one of its supports" */
    private static void holds() {
        Counted x = Bench.defaults(3);
        x.clash(4);
        x.support(0, 3);
        due("all of it", x.truth(0), 2);
        x.support(1, 7);
        due("not all of it", x.truth(1), 0);
        x.support(1, 1);
        due("all of another one", x.truth(1), 2);
        x.support(2, 0);
        due("of no statements", x.truth(2), 2);
        due("no supports", x.truth(3), 0);
        x.support(4, 8 | 1);
        due("with a statement that is not there", x.truth(4), 0);
        x.fact(false, 0, 1);
        due("with one that is there now", x.truth(4), 2);
    }

    public static void main(String[] args) {
        calls512();
        callsBehind512();
        statements();
        hardOrDefault();
        ranks();
        weights();
        hardOnesAreNotCompared();
        sets();
        clashes();
        clashesThatAreNoneYet();
        clashOfNoStatements();
        keptHasAllHard();
        keptHasNotAllOfAClash();
        order0();
        order1();
        order2();
        order3();
        repairsAreBest();
        repairsAreSorted();
        answers();
        supports();
        holds();
        BENCH.check.end();
    }
}
