import java.util.StringJoiner;
import java.util.function.ToIntFunction;

/**
 * What each change does to what later calls answer, and how long it lasts. Every question is asked
 * before the change and behind it, so an answer that is kept in mind for too long is seen.
 */
public final class ChangesTest {
    private static final int BAD = Bench.BAD;
    private static final int NO = Bench.NO;

    private static final Bench BENCH = new Bench();

    /** By order 0, repairs 10 and 13; by orders 1 and 2 the first of them, by order 3 the second. */
    private static final String BOTH = "kept 10 13; left 0,2 1; truth 1 2 0; surely 1 1 1 2; least 3 6";
    private static final String FIRST = "kept 10; left 0,2; truth 0 2 0; surely 0 2 0 2; least 3 6";
    private static final String SECOND = "kept 13; left 1; truth 2 2 0; surely 2 0 2 2; least 3 6";

    private static void due(String call, int got, int want) {
        BENCH.due(call, got, want);
    }

    private static Counted made() {
        Counted x = new Counted();
        x.fact(false, 1, 2);
        x.fact(false, 0, 1);
        x.fact(false, 1, 4);
        x.fact(false, 0, 1);
        x.clash(1 | 2);
        x.clash(2 | 4);
        x.support(0, 1);
        x.support(1, 2);
        x.support(1, 4);
        return x;
    }

    private static Counted madeBy(int order) {
        Counted x = made();
        x.order(order);
        return x;
    }

    private static String leftOf(Counted x, int repair) {
        StringJoiner all = new StringJoiner(",");
        for (int i = 0; x.left(repair, i) != NO; i++) all.add("" + x.left(repair, i));
        return all.toString();
    }

    private static String seen(Counted x) {
        StringJoiner kept = new StringJoiner(" ");
        StringJoiner left = new StringJoiner(" ");
        StringJoiner truth = new StringJoiner(" ");
        StringJoiner surely = new StringJoiner(" ");
        StringJoiner least = new StringJoiner(" ");
        for (int repair = 0; repair < x.find(); repair++) {
            kept.add("" + x.kept(repair));
            left.add(leftOf(x, repair));
        }
        for (int answer = 0; answer < 3; answer++) truth.add("" + x.truth(answer));
        for (int statement = 0; statement < x.size(); statement++) surely.add("" + x.surely(statement));
        for (int i = 0; x.least(i) != NO; i++) least.add("" + x.least(i));
        return "kept " + kept + "; left " + left + "; truth " + truth + "; surely " + surely + "; least " + least;
    }

    private static void seen(String what, Counted x, String want) {
        String got = seen(x);
        BENCH.check.isTrue(what + ": seen is '" + got + "', due is '" + want + "'", got.equals(want));
    }

    /** Promise 2: "A statement more" */
    private static void aStatementMore() {
        for (boolean hard : new boolean[] {false, true}) {
            Counted x = made();
            seen("2 before", x, BOTH);
            due("2 fact", x.fact(hard, 7, 1), 4);
            seen("2 behind, hard " + hard, x,
                    "kept 26 29; left 0,2 1; truth 1 2 0; surely 1 1 1 2 2; least 3 6");
            due("2 it clashes", x.clash(16), 3);
            seen("2 it clashes, hard " + hard, x, hard
                    ? "kept ; left ; truth -2 -2 -2; surely -2 -2 -2 -2 -2; least 3 6 16"
                    : "kept 10 13; left 0,2,4 1,4; truth 1 2 0; surely 1 1 1 2 0; least 3 6 16");
        }
    }

    /** Promise 2: the statement has the rank and the weight that it was given. */
    private static void itsRankAndWeight() {
        Counted x = made();
        due("2 fact", x.fact(false, 0, 3), 4);
        due("2 of a higher rank than 2", x.better(16, 4, 2), 1);
        due("2 of no higher rank than 1", x.better(16, 2, 2), 0);
        due("2 of no lower rank than 1", x.better(2, 16, 2), 0);
        due("2 heavier than 0", x.better(16, 1, 3), 1);
        due("2 lighter than 2", x.better(4, 16, 3), 1);
        due("2 as heavy as 0 and 1", x.better(16, 3, 3) + x.better(3, 16, 3), 0);
    }

    /** Promise 3: "A statement is hard from now on, or a default" */
    private static void hardFromNowOn() {
        for (int order = 0; order < 4; order++) {
            Counted x = madeBy(order);
            String without = order == 0 ? BOTH : order == 3 ? SECOND : FIRST;
            seen("3 before, order " + order, x, without);
            due("3 statement 0 hard", x.harden(0, true), 1);
            seen("3 statement 0 hard, order " + order, x, SECOND);
            due("3 a default again", x.harden(0, false), 1);
            seen("3 a default again, order " + order, x, without);
            due("3 statement 1 hard", x.harden(1, true), 1);
            seen("3 statement 1 hard, order " + order, x, FIRST);
            due("3 both hard", x.harden(0, true), 1);
            seen("3 both hard, order " + order, x, "kept ; left ; truth -2 -2 -2; surely -2 -2 -2 -2; least 3 6");
        }
        Counted lasting = made();
        lasting.harden(0, true);
        otherCalls(lasting);
        lasting.weight(0, 0, 1);
        lasting.order(1);
        due("3 still hard", lasting.harden(0, true), 0);
        due("3 others are not", lasting.harden(1, false), 0);
        seen("3 still hard", lasting, SECOND);
    }

    /** Promise 4: "A statement's rank, and weight, from now on" */
    private static void rankAndWeightFromNowOn() {
        Counted x = madeBy(1);
        seen("4 before, order 1", x, FIRST);
        due("4 statement 0 of rank 0", x.weight(0, 0, 2), 1);
        seen("4 statement 0 of rank 0, order 1", x, BOTH);
        due("4 statement 1 of rank 1", x.weight(1, 1, 1), 1);
        seen("4 statement 1 of rank 1, order 1", x, SECOND);
        Counted y = madeBy(2);
        seen("4 before, order 2", y, FIRST);
        due("4 statement 1 of rank 2", y.weight(1, 2, 1), 1);
        seen("4 statement 1 of rank 2, order 2", y, SECOND);
        Counted z = madeBy(3);
        seen("4 before, order 3", z, SECOND);
        due("4 as heavy as both", z.weight(1, 0, 6), 1);
        seen("4 as heavy as both, order 3", z, BOTH);
        due("4 heavier than both", z.weight(1, 0, 7), 1);
        seen("4 heavier than both, order 3", z, FIRST);
        otherCalls(z);
        z.harden(1, true);
        z.harden(1, false);
        z.order(3);
        seen("4 still heavier", z, FIRST);
        due("4 by one", z.better(2, 5, 3), 1);
    }

    /** Promise 5: "A clash more", and promise 6: "The latest clash goes" */
    private static void clashesComeAndGo() {
        Counted x = made();
        seen("5 before", x, BOTH);
        due("5 clash", x.clash(8), 3);
        seen("5 behind", x, "kept 2 5; left 0,2,3 1,3; truth 1 2 0; surely 1 1 1 0; least 3 6 8");
        due("6 it goes", x.settle(), 2);
        seen("6 as before", x, BOTH);
        due("6 the one before it goes", x.settle(), 1);
        seen("6 without it", x, "kept 13 14; left 1 0; truth 1 2 0; surely 1 1 2 2; least 3");
        due("5 it comes again", x.clash(6), 2);
        seen("5 it is there again", x, BOTH);
    }

    /** Promise 7: "An answer has a support more" */
    private static void aSupportMore() {
        Counted x = made();
        seen("7 before", x, BOTH);
        due("7 answer 2", x.support(2, 8), 1);
        seen("7 answer 2", x, BOTH.replace("truth 1 2 0", "truth 1 2 2"));
        due("7 answer 0", x.support(0, 2), 2);
        seen("7 answer 0", x, BOTH.replace("truth 1 2 0", "truth 2 2 2"));
        otherCalls(x);
        x.settle();
        x.clash(6);
        seen("7 they stay", x, BOTH.replace("truth 1 2 0", "truth 2 2 2"));
        due("7 and are counted", x.support(0, 0), 3);
    }

    /** Promise 8: "The order from now on" */
    private static void theOrderFromNowOn() {
        Counted x = made();
        seen("8 order 0", x, BOTH);
        due("8 to 1", x.order(1), 1);
        seen("8 order 1", x, FIRST);
        due("8 to 3", x.order(3), 1);
        seen("8 order 3", x, SECOND);
        due("8 to 2", x.order(2), 1);
        seen("8 order 2", x, FIRST);
        due("8 to 0", x.order(0), 1);
        seen("8 order 0 again", x, BOTH);
        for (int order = 0; order < 4; order++) {
            Counted lasting = madeBy(order);
            lasting.fact(false, 3, 1);
            lasting.harden(3, true);
            lasting.harden(3, false);
            lasting.weight(4, 7, 1);
            lasting.clash(16);
            lasting.settle();
            lasting.clash(16);
            lasting.support(7, 1);
            lasting.better(1, 2, 3 - order);
            due("8 still order " + order, lasting.find(), order == 0 ? 2 : 1);
            due("8 still its first repair", lasting.kept(0), order == 3 ? 13 : 10);
        }
    }

    /** Calls of all kinds, changes too, behind which statements 0 .. 3, clashes and supports are as before; order 0. */
    private static void otherCalls(Counted x) {
        x.order(2);
        x.find();
        x.clash(0);
        x.kept(0);
        x.settle();
        x.harden(3, true);
        x.left(0, 0);
        x.harden(3, false);
        x.weight(3, 0, 1);
        x.truth(0);
        x.surely(0);
        x.better(1, 2, 3);
        x.least(0);
        x.size();
        x.order(0);
    }

    /** Promises 9 to 16 tell what is; a question that is answered changes nothing. */
    private static void questionsChangeNothing() {
        // By order 2 the one repair is 19: of rank 1 all that there is, then what does not clash with it.
        quiet("9", x -> x.find(), 1);
        quiet("10", x -> x.kept(0), 19);
        quiet("11", x -> x.left(0, 1), 3);
        quiet("12 in none", x -> x.truth(0), 0);
        quiet("12 in all", x -> x.truth(7), 2);
        quiet("13 in none", x -> x.surely(2), 0);
        quiet("13 in all", x -> x.surely(4), 2);
        quiet("15", x -> x.least(2), 24);
        quiet("16", x -> x.size(), 5);
        for (int order = 0; order < 4; order++) {
            int by = order;
            quiet("14 it is", x -> x.better(7, 1, by), 1);
            quiet("14 it is not", x -> x.better(1, 7, by), 0);
        }
    }

    private static void quiet(String what, ToIntFunction<Counted> question, int answer) {
        BENCH.twins.due(what + " changes nothing", Bench::some, question, answer);
    }

    /** Promise 15 names neither hard statements nor the order: the least clashes are the same by all. */
    private static void leastByAllOrders() {
        Counted x = Bench.defaults(4);
        for (int bits : new int[] {12, 7, 3, 15}) x.clash(bits);
        for (int order = 0; order < 4; order++) {
            x.order(order);
            BENCH.leasts("15 by order " + order, x, 3, 12);
        }
        for (int statement = 0; statement < 4; statement++) {
            x.harden(statement, true);
            x.weight(statement, statement, 7);
            BENCH.leasts("15 with hard ones up to " + statement, x, 3, 12);
        }
        due("15 no repairs", x.find(), 0);
    }

    /** Promise 14: "by an order, as above": neither the order in force nor the clashes are asked. */
    private static void betterByEachOrder() {
        int[] want = {0, 1, 1, 0};
        Counted x = made();
        for (int inForce = 0; inForce < 4; inForce++) {
            x.order(inForce);
            for (int order = 0; order < 4; order++) {
                due("14 by " + order + ", in force " + inForce, x.better(10, 13, order), want[order]);
                due("14 turned, by " + order, x.better(13, 10, order), order == 3 ? 1 : 0);
            }
        }
        x.clash(0);
        for (int order = 0; order < 4; order++) due("14 nothing kept, by " + order, x.better(10, 13, order), want[order]);
    }

    /** Promise 1, of a second object: what the first one was told is not known to it. */
    private static void objectsApart() {
        Counted first = made();
        Counted second = new Counted();
        due("1 of the second: no statements", second.size(), 0);
        due("1 of the second: no clashes", second.settle(), NO);
        due("1 of the second: no supports", second.support(0, 1), 1);
        due("1 of the second: one repair", second.find(), 1);
        first.order(3);
        second.fact(true, 0, 1000);
        second.fact(false, 0, 1);
        second.clash(3);
        due("1 of the second", second.kept(0), 1);
        seen("1 of the first", first, SECOND);
        second.order(1);
        first.order(0);
        due("1 of the second again", second.kept(0), 1);
        due("1 no statement 2 in the second", second.surely(2), BAD);
        seen("1 of the first again", first, BOTH);
        seen("1 of a third made now", made(), BOTH);
    }

    public static void main(String[] args) {
        aStatementMore();
        itsRankAndWeight();
        hardFromNowOn();
        rankAndWeightFromNowOn();
        clashesComeAndGo();
        aSupportMore();
        theOrderFromNowOn();
        questionsChangeNothing();
        leastByAllOrders();
        betterByEachOrder();
        objectsApart();
        BENCH.check.end();
    }
}
