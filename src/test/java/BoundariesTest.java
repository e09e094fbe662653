import java.util.function.Consumer;
import java.util.function.ToIntFunction;

/** The sentences of the promises that name a boundary, each with a test of its own. */
public final class BoundariesTest {
    private static final int BAD = Bench.BAD;
    private static final int NO = Bench.NO;
    private static final int FULL = Bench.FULL;
    private static final int MIN = Bench.MIN;
    private static final int MAX = Bench.MAX;

    private static final int[] WRONG_RANKS = {-1, 8, MIN, MAX};
    private static final int[] WRONG_WEIGHTS = {0, 1001, -1, MIN, MAX};
    private static final int[] WRONG_ANSWERS = {-1, 8, 32, MIN, MAX};
    private static final int[] WRONG_ORDERS = {-1, 4, MIN, MAX};

    private static final Bench BENCH = new Bench();

    private static void due(String call, int got, int want) {
        BENCH.due(call, got, want);
    }

    private static void refused(String what, Consumer<Counted> making, ToIntFunction<Counted> call, int answer) {
        BENCH.twins.due(what, making, call, answer);
    }

    /** Numbers of no statement of an object that has this many; a shift by 32 or 64 more would find one. */
    private static int[] wrongStatements(int count) {
        return new int[] {-1, count, count + 1, 11, 32, 33, 64, -31, -32, MIN, MAX};
    }

    /** Promise 1: "No statements, clashes, answers; order 0." */
    private static void newObject() {
        Counted x = new Counted();
        due("1 no statements", x.size(), 0);
        due("1 no statement 0", x.surely(0), BAD);
        BENCH.leasts("1 no clashes", x);
        BENCH.repairs("1 the set of no statements is kept", x, 0);
        for (int answer = 0; answer < 8; answer++) due("1 no supports of " + answer, x.truth(answer), 0);
        due("1 none to settle", x.settle(), NO);
        due("1 the first clash", x.clash(3), 1);
        for (int answer = 0; answer < 8; answer++) due("1 the first of " + answer, x.support(answer, 0), 1);
        due("1 the first statement", x.fact(false, 0, 3), 0);
        x.fact(false, 0, 1);
        x.fact(false, 1, 1);
        x.fact(false, 0, 1);
        x.clash(9);
        // By order 2 it would be 14 alone, by order 3 it would be 5 alone.
        BENCH.repairs("1 not order 2 or 3", x, 5, 14);
        x.weight(0, 1, 3);
        // By order 1 it would be 14 alone now.
        BENCH.repairs("1 not order 1", x, 5, 14);
    }

    /** Promise 2: "A statement more: its number." */
    private static void factNumbers() {
        Counted x = new Counted();
        for (int k = 0; k < 11; k++) {
            due("2 not yet there", x.surely(k), BAD);
            due("2 its number", x.fact(k % 2 == 1, k % 8, 1 + k * 99), k);
            due("2 there", x.surely(k), 2);
            due("2 hard or not", x.harden(k, k % 2 == 1), 0);
        }
        for (int k = 0; k < 11; k++) due("2 still hard or not", x.harden(k, k % 2 == 1), 0);
    }

    /** Promise 2: "BAD for another rank" */
    private static void factBadRank() {
        for (int rank = 0; rank < 8; rank++) due("2 rank " + rank, new Counted().fact(false, rank, 1), 0);
        for (int rank : WRONG_RANKS) {
            refused("2 rank " + rank, Bench::blank, x -> x.fact(false, rank, 1), BAD);
            refused("2 rank " + rank + ", hard", Bench::some, x -> x.fact(true, rank, 1000), BAD);
        }
    }

    /** Promise 2: "BAD for another .. weight" */
    private static void factBadWeight() {
        for (int weight : new int[] {1, 2, 999, 1000}) {
            due("2 weight " + weight, new Counted().fact(true, 0, weight), 0);
        }
        for (int weight : WRONG_WEIGHTS) {
            refused("2 weight " + weight, Bench::blank, x -> x.fact(false, 7, weight), BAD);
            refused("2 weight " + weight + ", hard", Bench::some, x -> x.fact(true, 0, weight), BAD);
        }
    }

    /** Promise 2: "FULL." */
    private static void factFull() {
        due("2 the tenth", Bench.defaults(9).fact(false, 0, 1), 9);
        due("2 the eleventh", Bench.defaults(10).fact(false, 0, 1), 10);
        due("2 the twelfth", Bench.defaults(11).fact(false, 0, 1), FULL);
        refused("2 full", Bench::full, x -> x.fact(false, 0, 1000), FULL);
        refused("2 full, hard", Bench::full, x -> x.fact(true, 7, 1), FULL);
        refused("2 full, and another rank", Bench::full, x -> x.fact(true, 8, 1), BAD);
        refused("2 full, and another weight", Bench::full, x -> x.fact(true, 0, 0), BAD);
    }

    /** Promise 3: "1; 0 when it was so." */
    private static void hardenAnswers() {
        Counted x = Bench.defaults(11);
        for (int statement = 0; statement < 11; statement++) {
            due("3 was a default", x.harden(statement, false), 0);
            due("3 hard from now on", x.harden(statement, true), 1);
            due("3 was hard", x.harden(statement, true), 0);
        }
        x.clash(1);
        BENCH.repairs("3 a hard one clashes", x);
        due("3 a default from now on", x.harden(0, false), 1);
        due("3 was a default again", x.harden(0, false), 0);
        BENCH.repairs("3 a default clashes", x, 2046);
        refused("3 was so, hard", Bench::some, y -> y.harden(0, true), 0);
        refused("3 was so, a default", Bench::some, y -> y.harden(4, false), 0);
    }

    /** Promise 3: "BAD." */
    private static void hardenBad() {
        for (int wrong : wrongStatements(5)) {
            refused("3 no statement " + wrong, Bench::some, x -> x.harden(wrong, true), BAD);
            refused("3 no statement " + wrong, Bench::some, x -> x.harden(wrong, false), BAD);
        }
        for (int wrong : wrongStatements(11)) {
            refused("3 no statement " + wrong + " of 11", Bench::full, x -> x.harden(wrong, true), BAD);
        }
        refused("3 no statement at all", Bench::blank, x -> x.harden(0, true), BAD);
    }

    /** Promise 4: "A statement's rank, and weight, from now on: 1." */
    private static void weightAnswers() {
        Counted x = Bench.defaults(11);
        for (int statement = 0; statement < 11; statement++) {
            due("4 rank 0, weight 1", x.weight(statement, 0, 1), 1);
            due("4 rank 7, weight 1000", x.weight(statement, 7, 1000), 1);
            due("4 the same again", x.weight(statement, 7, 1000), 1);
        }
        due("4 as heavy", x.better(1, 1024, 3), 0);
        due("4 lighter by one", x.weight(10, 7, 999), 1);
        due("4 heavier now", x.better(1, 1024, 3), 1);
        due("4 of the same rank", x.better(1024, 1, 2), 0);
        due("4 of a higher rank", x.weight(10, 6, 999), 1);
        due("4 of a higher rank now", x.better(1024, 1, 2), 1);
    }

    /** Promise 4: "BAD." for a statement that is not there, another rank, another weight. */
    private static void weightBad() {
        for (int wrong : wrongStatements(5)) {
            refused("4 no statement " + wrong, Bench::some, x -> x.weight(wrong, 0, 1000), BAD);
        }
        for (int wrong : wrongStatements(11)) {
            refused("4 no statement " + wrong + " of 11", Bench::full, x -> x.weight(wrong, 0, 1000), BAD);
        }
        for (int rank : WRONG_RANKS) {
            refused("4 rank " + rank, Bench::some, x -> x.weight(2, rank, 1000), BAD);
        }
        for (int weight : WRONG_WEIGHTS) {
            refused("4 weight " + weight, Bench::some, x -> x.weight(3, 0, weight), BAD);
            refused("4 weight " + weight + ", rank 7", Bench::some, x -> x.weight(2, 7, weight), BAD);
        }
        refused("4 no statement at all", Bench::blank, x -> x.weight(0, 0, 1), BAD);
    }

    /** Promise 5: "A clash more (the lowest 11 bits)" */
    private static void clashBits() {
        for (int high : new int[] {0, 2048, 1 << 30, MIN, ~2047}) {
            Counted x = Bench.defaults(11);
            x.clash(high | 1024);
            BENCH.leasts("5 bit 10 of " + high, x, 1024);
            BENCH.repairs("5 bit 10 of " + high, x, 1023);
            x.clash(high | 1);
            BENCH.leasts("5 bit 0 of " + high, x, 1, 1024);
            x.clash(high);
            BENCH.leasts("5 no bits of " + high, x, 0);
            BENCH.repairs("5 no bits of " + high, x);
        }
        for (int all : new int[] {-1, MAX, 2047}) {
            Counted x = Bench.defaults(11);
            x.clash(all);
            BENCH.leasts("5 all bits of " + all, x, 2047);
            due("5 all but one, of " + all, x.find(), 11);
        }
    }

    /** Promise 5: "how many" */
    private static void clashHowMany() {
        Counted x = Bench.defaults(3);
        due("5 one", x.clash(3), 1);
        due("5 the same again", x.clash(3), 2);
        due("5 one that has another", x.clash(7), 3);
        due("5 one that is none yet", x.clash(8), 4);
        due("5 one of no statements", x.clash(0), 5);
        due("5 one goes", x.settle(), 4);
        due("5 one comes", x.clash(MIN), 5);
    }

    /** Promise 5: "FULL." */
    private static void clashFull() {
        Counted x = Bench.defaults(2);
        for (int k = 1; k <= 40; k++) due("5 how many, " + k, x.clash(k == 40 ? 1 : 3), k);
        due("5 the 41st", x.clash(2), FULL);
        due("5 one goes", x.settle(), 39);
        BENCH.repairs("5 the 40th has gone", x, 1, 2);
        due("5 the 40th again", x.clash(2), 40);
        due("5 full again", x.clash(1), FULL);
        BENCH.repairs("5 the new 40th", x, 1);
        for (int bits : new int[] {0, 1, 2047, -1, MIN, MAX}) {
            refused("5 full, " + bits, Bench::full, y -> y.clash(bits), FULL);
        }
    }

    /** Promise 6: "The latest clash goes: how many are left" */
    private static void settleLatest() {
        Counted x = Bench.defaults(11);
        // At last each statement clashes by itself, statement 0 as the latest one.
        for (int k = 0; k < 40; k++) x.clash(k < 29 ? 2047 : 1 << (39 - k));
        for (int k = 39; k >= 29; k--) {
            due("6 the first repair", x.kept(0), (1 << (39 - k)) - 1);
            due("6 left", x.settle(), k);
        }
        due("6 only those of all", x.find(), 11);
        for (int k = 28; k >= 0; k--) due("6 left", x.settle(), k);
        BENCH.repairs("6 none left", x, 2047);
    }

    /** Promise 6: "NO when there is none." */
    private static void settleNone() {
        refused("6 never one", Bench::blank, Counted::settle, NO);
        refused("6 never one, of some statements", x -> x.fact(false, 3, 4), Counted::settle, NO);
        refused("6 none any more", x -> {
            Bench.some(x);
            for (int k = 0; k < 4; k++) x.settle();
        }, Counted::settle, NO);
        refused("6 none, again and again", Bench::blank, x -> x.settle() + x.settle() + x.settle(), 3 * NO);
        Counted one = Bench.defaults(1);
        one.clash(1);
        due("6 the only one", one.settle(), 0);
        due("6 none", one.settle(), NO);
        due("6 one again", one.clash(1), 1);
        BENCH.repairs("6 one again", one, 0);
    }

    /** Promise 7: "An answer has a support more (the lowest 11 bits)" */
    private static void supportBits() {
        int answer = 0;
        for (int high : new int[] {0, 2048, 1 << 30, MIN, ~2047}) {
            Counted x = Bench.defaults(11);
            x.clash(1 << 10 | 1);
            x.support(answer, high | 1024);
            due("7 bit 10 of " + high, x.truth(answer), 1);
            x.support(answer, high | 1);
            due("7 bit 0 of " + high, x.truth(answer), 2);
            x.support(answer + 1, high);
            due("7 no bits of " + high, x.truth(answer + 1), 2);
            answer++;
        }
        for (int all : new int[] {-1, MAX, 2047}) {
            Counted x = Bench.defaults(11);
            x.support(7, all);
            due("7 all bits of " + all, x.truth(7), 2);
            x.clash(1024);
            due("7 not bit 10 of " + all, x.truth(7), 0);
        }
    }

    /** Promise 7: "how many it has" */
    private static void supportHowMany() {
        Counted x = new Counted();
        due("7 first of 0", x.support(0, 1), 1);
        due("7 first of 7", x.support(7, 1), 1);
        due("7 the same again", x.support(0, 1), 2);
        due("7 second of 7", x.support(7, 0), 2);
        due("7 third of 0", x.support(0, -1), 3);
        due("7 first of 3", x.support(3, 1), 1);
    }

    /** Promise 7: "BAD when there is no such answer" */
    private static void supportBad() {
        for (int wrong : WRONG_ANSWERS) {
            refused("7 no answer " + wrong, Bench::blank, x -> x.support(wrong, 0), BAD);
            refused("7 no answer " + wrong, Bench::some, x -> x.support(wrong, 1), BAD);
            refused("7 no answer " + wrong + ", full", Bench::full, x -> x.support(wrong, 1), BAD);
        }
    }

    /** Promise 7: "FULL." */
    private static void supportFull() {
        Counted x = new Counted();
        for (int k = 1; k <= 19; k++) due("7 how many of 5", x.support(5, 1), k);
        due("7 the 20th", x.support(6, 1), 1);
        due("7 the 21st of 5", x.support(5, 0), FULL);
        due("7 the 21st of 6", x.support(6, 0), FULL);
        due("7 5 does not hold", x.truth(5), 0);
        due("7 6 does not hold", x.truth(6), 0);
        for (int answer = 0; answer < 8; answer++) {
            int of = answer;
            refused("7 full for " + of, Bench::full, y -> y.support(of, 0), FULL);
        }
        for (int bits : new int[] {-1, MIN, MAX}) {
            refused("7 full, bits " + bits, Bench::full, y -> y.support(7, bits), FULL);
        }
    }

    /** Promise 8: "The order from now on: 1" */
    private static void orderAnswers() {
        // Set 1 has the greatest sum, 6 more of rank 0 than 1, and 24 more of them still.
        Counted x = new Counted();
        x.fact(false, 1, 9);
        x.fact(false, 0, 1);
        x.fact(false, 7, 1);
        x.fact(false, 0, 1);
        x.fact(false, 0, 1);
        for (int bits : new int[] {3, 5, 9, 17, 2 | 8, 2 | 16, 4 | 8, 4 | 16}) x.clash(bits);
        int[][] want = {{1, 6, 24}, {6, 24}, {24}, {1}};
        for (int from = 0; from < 4; from++) {
            for (int to = 0; to < 4; to++) {
                due("8 order " + from, x.order(from), 1);
                due("8 repairs by order " + from, x.find(), want[from].length);
                due("8 from " + from + " to " + to, x.order(to), 1);
                BENCH.repairs("8 from " + from + " to " + to, x, want[to]);
            }
        }
    }

    /** Promise 8: "BAD when it is not 0 .. 3." */
    private static void orderBad() {
        for (int wrong : WRONG_ORDERS) {
            refused("8 no order " + wrong, Bench::blank, x -> x.order(wrong), BAD);
            refused("8 no order " + wrong, Bench::some, x -> x.order(wrong), BAD);
            refused("8 no order " + wrong, Bench::full, x -> x.order(wrong), BAD);
        }
    }

    /** Promise 9: "How many REPAIRS there are.": none, one, and many. */
    private static void find() {
        Counted x = new Counted();
        due("9 of no statements", x.find(), 1);
        x.clash(0);
        due("9 none", x.find(), 0);
        x.settle();
        for (int k = 0; k < 11; k++) x.fact(false, 0, 1);
        due("9 of eleven", x.find(), 1);
        // Of each triple two can be kept, of the pair one.
        for (int bits : new int[] {7, 7 << 3, 7 << 6, 3 << 9}) x.clash(bits);
        for (int order = 0; order < 4; order++) {
            x.order(order);
            due("9 many, by order " + order, x.find(), 54);
        }
    }

    /** Promise 9: very many by 40 clashes, each one compared with the model's. */
    private static void findMany() {
        Counted x = Bench.defaults(11);
        Model model = new Model();
        for (int k = 0; k < 11; k++) model.fact(false, 0, 1);
        for (int k = 0; k < 40; k++) {
            int bits = 1 << (k % 11) | 1 << ((k * 2 + 3) % 11) | 1 << ((k * 5 + 1) % 11) | 1 << (k * 3 % 11);
            due("9 clash", x.clash(bits), model.clash(bits));
        }
        due("9 as the model", x.find(), model.find());
        for (int repair = 0; repair <= model.find(); repair++) {
            due("9 repair " + repair, x.kept(repair), model.kept(repair));
        }
    }

    /** Promise 10: "NO when there is none such." */
    private static void keptNone() {
        Counted x = Bench.defaults(2);
        x.clash(3);
        due("10 the first", x.kept(0), 1);
        due("10 the last", x.kept(1), 2);
        for (int wrong : new int[] {2, 3, -1, 462, 2048, MIN, MAX}) due("10 no " + wrong, x.kept(wrong), NO);
        Counted none = new Counted();
        due("10 of no statements", none.kept(0), 0);
        due("10 no more of no statements", none.kept(1), NO);
        none.clash(0);
        due("10 no repairs", none.kept(0), NO);
        for (int wrong : new int[] {40, -1, MIN, MAX}) {
            refused("10 no " + wrong, Bench::some, y -> y.kept(wrong), NO);
        }
        refused("10 no repairs", Bench::hopeless, y -> y.kept(0), NO);
    }

    /** Promise 11: "Statement i (from 0, by their numbers) of those that a repair has not" */
    private static void leftNumbers() {
        Counted x = Bench.defaults(11);
        for (int statement = 0; statement < 11; statement++) x.clash(1 << statement);
        for (int i = 0; i < 11; i++) due("11 all eleven, " + i, x.left(0, i), i);
        due("11 no twelfth", x.left(0, 11), NO);
        x.settle();
        due("11 no eleventh", x.left(0, 10), NO);
        due("11 the tenth", x.left(0, 9), 9);
    }

    /** Promise 11: "NO when there is none such.": no such repair, no such statement of it. */
    private static void leftNone() {
        Counted x = Bench.defaults(3);
        x.clash(3);
        due("11 of the first", x.left(0, 0), 1);
        due("11 of the last", x.left(1, 0), 0);
        for (int wrong : new int[] {1, 2, -1, 32, MIN, MAX}) due("11 no i " + wrong, x.left(0, wrong), NO);
        for (int wrong : new int[] {2, -1, 462, MIN, MAX}) due("11 no repair " + wrong, x.left(wrong, 0), NO);
        due("11 the repair has all", Bench.defaults(11).left(0, 0), NO);
        due("11 no statements", new Counted().left(0, 0), NO);
        for (int wrong : new int[] {40, -1, MIN, MAX}) {
            refused("11 no i " + wrong, Bench::some, y -> y.left(0, wrong), NO);
            refused("11 no repair " + wrong, Bench::some, y -> y.left(wrong, 0), NO);
            refused("11 neither " + wrong, Bench::some, y -> y.left(wrong, wrong), NO);
        }
        refused("11 no repairs", Bench::hopeless, y -> y.left(0, 0), NO);
    }

    /** Promise 12: "2 when an answer holds in all repairs, 1 in some, 0 in none" */
    private static void truthAnswers() {
        // Three repairs, each with one of the three statements.
        Counted x = Bench.defaults(3);
        for (int bits : new int[] {3, 5, 6}) x.clash(bits);
        due("12 in none of three", x.truth(0), 0);
        x.support(0, 3);
        due("12 still in none", x.truth(0), 0);
        x.support(0, 4);
        due("12 in the last alone", x.truth(0), 1);
        x.support(0, 2);
        due("12 in all but one", x.truth(0), 1);
        x.support(0, 1);
        due("12 in all", x.truth(0), 2);
        x.harden(1, true);
        x.support(7, 2);
        due("12 in the only one", x.truth(7), 2);
        x.support(6, 1);
        due("12 not in the only one", x.truth(6), 0);
    }

    /** Promise 12: "NO when there are no repairs." */
    private static void truthNone() {
        for (int answer = 0; answer < 8; answer++) {
            int of = answer;
            refused("12 no repairs, " + of, Bench::hopeless, x -> x.truth(of), NO);
        }
        Counted x = new Counted();
        x.support(0, 0);
        due("12 a repair of no statements", x.truth(0), 2);
        x.clash(0);
        due("12 no repair", x.truth(0), NO);
        due("12 no repair, no support", x.truth(1), NO);
        x.settle();
        due("12 a repair again", x.truth(0), 2);
    }

    /** Promise 12: "BAD." */
    private static void truthBad() {
        for (int wrong : WRONG_ANSWERS) {
            refused("12 no answer " + wrong, Bench::blank, x -> x.truth(wrong), BAD);
            refused("12 no answer " + wrong, Bench::some, x -> x.truth(wrong), BAD);
            refused("12 no answer " + wrong + ", no repairs", Bench::hopeless, x -> x.truth(wrong), BAD);
        }
    }

    /** Promise 13: "Likewise a statement by itself.": 2, 1 and 0. */
    private static void surelyAnswers() {
        Counted x = Bench.defaults(11);
        for (int statement = 0; statement < 11; statement++) due("13 in the only one", x.surely(statement), 2);
        x.clash(1);
        x.clash(1 << 9 | 1 << 10);
        due("13 in none", x.surely(0), 0);
        due("13 in all", x.surely(1), 2);
        due("13 in some", x.surely(9), 1);
        due("13 in some", x.surely(10), 1);
        x.clash(1 << 10);
        due("13 in none any more", x.surely(10), 0);
        due("13 in all now", x.surely(9), 2);
    }

    /** Promise 13, likewise: "NO when there are no repairs." */
    private static void surelyNone() {
        for (int statement = 0; statement < 5; statement++) {
            int of = statement;
            refused("13 no repairs, " + of, Bench::hopeless, x -> x.surely(of), NO);
        }
        Counted x = Bench.defaults(1);
        x.clash(1);
        due("13 a repair without it", x.surely(0), 0);
        x.harden(0, true);
        due("13 no repair", x.surely(0), NO);
    }

    /** Promise 13, likewise: "BAD." */
    private static void surelyBad() {
        refused("13 no statement at all", Bench::blank, x -> x.surely(0), BAD);
        for (int wrong : wrongStatements(5)) {
            refused("13 no statement " + wrong, Bench::some, x -> x.surely(wrong), BAD);
            refused("13 no statement " + wrong + ", no repairs", Bench::hopeless, x -> x.surely(wrong), BAD);
        }
        for (int wrong : wrongStatements(11)) {
            refused("13 no statement " + wrong + " of 11", Bench::full, x -> x.surely(wrong), BAD);
        }
    }

    /** Promise 14: "(also of sets that are not kept)" */
    private static void betterNotKept() {
        Counted x = Bench.defaults(3);
        x.harden(0, true);
        x.clash(6);
        BENCH.repairs("14 neither of these", x, 3, 5);
        for (int order = 0; order < 4; order++) {
            due("14 all of a clash, order " + order, x.better(6, 2, order), 1);
            due("14 than all of a clash, order " + order, x.better(2, 6, order), 0);
            due("14 without a hard one, order " + order, x.better(2, 0, order), 1);
            due("14 kept, than one that is not, order " + order, x.better(3, 1, order), 1);
        }
        due("14 a hard one is one more by order 0", x.better(3, 2, 0), 1);
        x.clash(0);
        for (int order = 0; order < 4; order++) due("14 nothing is kept", x.better(7, 1, order), 1);
    }

    /** Promise 14: "BAD for another order." */
    private static void betterBad() {
        for (int wrong : WRONG_ORDERS) {
            refused("14 no order " + wrong, Bench::blank, x -> x.better(0, 0, wrong), BAD);
            refused("14 no order " + wrong, Bench::some, x -> x.better(7, 3, wrong), BAD);
            refused("14 no order " + wrong, Bench::full, x -> x.better(MIN, MAX, wrong), BAD);
        }
        for (int order = 0; order < 4; order++) {
            int by = order;
            refused("14 the order in force stays, " + by, Bench::full, x -> x.better(1024, 0, by), 1);
        }
    }

    /** Promise 14: "Bits of no statements do not count." */
    private static void betterBits() {
        for (int count = 0; count <= 11; count++) {
            Counted x = Bench.defaults(count);
            int none = -(1 << count);
            for (int order = 0; order < 4; order++) {
                String what = "14 of " + count + " by order " + order + ": ";
                due(what + "all of no statements", x.better(none, 0, order), 0);
                due(what + "the next one", x.better(1 << count, 0, order), 0);
                due(what + "the least int", x.better(MIN, 0, order), 0);
                due(what + "than all of no statements", x.better(0, none, order), 0);
                due(what + "all and all", x.better(-1, (1 << count) - 1, order), 0);
                due(what + "the last one", x.better(-1, none, order), count > 0 ? 1 : 0);
                due(what + "the greatest int", x.better(MAX, MIN, order), count > 0 ? 1 : 0);
            }
        }
        Counted later = Bench.defaults(1);
        due("14 not there", later.better(3, 1, 0), 0);
        later.fact(false, 0, 1);
        due("14 there now", later.better(3, 1, 0), 1);
    }

    /** Promise 15: "those of which no part that is not all of it is a clash, each once, sorted by their bits" */
    private static void leastOnes() {
        Counted x = Bench.defaults(11);
        for (int bits : new int[] {1536, 7, 7, 3, 1536, 5, 2047, 3}) x.clash(bits);
        BENCH.leasts("15 each once, sorted", x, 3, 5, 1536);
        x.clash(1);
        BENCH.leasts("15 a part of two", x, 1, 1536);
        x.clash(0);
        BENCH.leasts("15 a part of all", x, 0);
        x.settle();
        x.settle();
        BENCH.leasts("15 no more", x, 3, 5, 1536);
        Counted same = Bench.defaults(1);
        for (int k = 0; k < 40; k++) same.clash(1);
        BENCH.leasts("15 forty times the same", same, 1);
        leastForty();
    }

    private static void leastForty() {
        Counted x = Bench.defaults(11);
        for (int k = 0; k < 40; k++) x.clash(pair(39 - k));
        for (int i = 0; i < 40; i++) due("15 least " + i + " of forty", x.least(i), pair(i));
        due("15 no least 40 of forty", x.least(40), NO);
    }

    /** Pair k of the pairs of two statements, sorted by their bits. */
    private static int pair(int k) {
        int high = 1;
        int low = k;
        while (low >= high) {
            low -= high;
            high++;
        }
        return 1 << high | 1 << low;
    }

    /** Promise 15: "NO when there is none such." */
    private static void leastNone() {
        due("15 no clashes", new Counted().least(0), NO);
        Counted x = Bench.defaults(2);
        x.clash(2);
        x.clash(1);
        due("15 the first", x.least(0), 1);
        due("15 the last", x.least(1), 2);
        for (int wrong : new int[] {2, 3, -1, 40, MIN, MAX}) due("15 no " + wrong, x.least(wrong), NO);
        x.clash(4);
        due("15 one that is none yet", x.least(2), NO);
        x.fact(false, 0, 1);
        due("15 and now is one", x.least(2), 4);
        for (int wrong : new int[] {40, -1, MIN, MAX}) {
            refused("15 no " + wrong, Bench::some, y -> y.least(wrong), NO);
        }
    }

    /** Promise 16: "How many statements there are." */
    private static void size() {
        Counted x = new Counted();
        for (int k = 0; k < 11; k++) {
            due("16 so far", x.size(), k);
            due("16 refused", x.fact(false, 8, 1), BAD);
            due("16 not counted", x.size(), k);
            x.fact(k % 2 == 0, k % 8, 1000);
        }
        due("16 eleven", x.size(), 11);
        due("16 refused", x.fact(false, 0, 1), FULL);
        due("16 still eleven", x.size(), 11);
        x.clash(0);
        due("16 also with no repairs", x.size(), 11);
    }

    private static void changes() {
        newObject();
        factNumbers();
        factBadRank();
        factBadWeight();
        factFull();
        hardenAnswers();
        hardenBad();
        weightAnswers();
        weightBad();
        clashBits();
        clashHowMany();
        clashFull();
        settleLatest();
        settleNone();
        supportBits();
        supportHowMany();
        supportBad();
        supportFull();
        orderAnswers();
        orderBad();
    }

    private static void questions() {
        find();
        findMany();
        keptNone();
        leftNumbers();
        leftNone();
        truthAnswers();
        truthNone();
        truthBad();
        surelyAnswers();
        surelyNone();
        surelyBad();
        betterNotKept();
        betterBad();
        betterBits();
        leastOnes();
        leastNone();
        size();
    }

    public static void main(String[] args) {
        changes();
        questions();
        BENCH.check.end();
    }
}
