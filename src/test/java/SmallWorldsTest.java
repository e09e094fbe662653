/**
 * Up to three statements with every family of clashes among three, every choice of hard ones, every
 * choice of two ranks, a weight row for each of these, and all four orders, compared with the model.
 */
public final class SmallWorldsTest {
    private static final int MOST = 3;
    private static final int SETS = 1 << MOST;

    // Sums that are the same, and sums that are not, for each choice of two.
    private static final int[][] WEIGHTS = {
        {1, 1, 1}, {1, 1, 2}, {1, 2, 1}, {2, 1, 1}, {1, 2, 3}, {3, 1, 2}, {2, 3, 1}, {1000, 999, 1}
    };
    private static final int[] RANKS = {0, 3, 7};

    private static final Check CHECK = new Check();

    private final Check check = new Check();
    private final Counted real = new Counted();
    private final Model model = new Model();
    private final String name;

    private SmallWorldsTest(String name) {
        this.name = name;
    }

    private void due(String call, int got, int want) {
        check.due(name + ": " + call, got, want);
    }

    private static boolean has(int bits, int k) {
        return (bits >> k & 1) == 1;
    }

    private void fact(boolean hard, int rank, int weight) {
        due("fact", real.fact(hard, rank, weight), model.fact(hard, rank, weight));
    }

    private void clashes(int family) {
        for (int set = 0; set < SETS; set++) {
            if (has(family, set)) due("clash " + set, real.clash(set), model.clash(set));
        }
        for (int i = -1; i <= MOST + 1; i++) due("least " + i, real.least(i), model.least(i));
    }

    /** One support for each answer, all sets of three statements. */
    private void supports() {
        for (int set = 0; set < SETS; set++) due("support " + set, real.support(set, set), model.support(set, set));
    }

    private void askBy(int order) {
        String by = " by order " + order;
        due("order " + order, real.order(order), model.order(order));
        due("find" + by, real.find(), model.find());
        for (int repair = 0; repair <= model.find(); repair++) {
            due("kept " + repair + by, real.kept(repair), model.kept(repair));
            for (int i = 0; i <= MOST; i++) due("left " + i + by, real.left(repair, i), model.left(repair, i));
        }
        for (int answer = 0; answer < SETS; answer++) due("truth " + answer + by, real.truth(answer), model.truth(answer));
        for (int s = 0; s <= MOST; s++) due("surely " + s + by, real.surely(s), model.surely(s));
    }

    private static void world(int count, int family, int hard, int low) {
        SmallWorldsTest x = new SmallWorldsTest("family " + family + " hard " + hard + " of low rank " + low);
        for (int s = 0; s < count; s++) x.fact(has(hard, s), has(low, s) ? 1 : 0, WEIGHTS[low][s]);
        x.clashes(family);
        x.supports();
        for (int order = 0; order < 4; order++) x.askBy(order);
        CHECK.isTrue(x.name, !x.check.anyWrong());
    }

    private static void worlds(int count) {
        for (int family = 0; family < 1 << SETS; family++) {
            for (int hard = 0; hard < 1 << count; hard++) {
                for (int low = 0; low < 1 << count; low++) world(count, family, hard, low);
            }
        }
    }

    /** Each pair of sets by each order, for each choice of hard ones and of three ranks. */
    private static void pairs(int hard, int ranks) {
        SmallWorldsTest x = new SmallWorldsTest("hard " + hard + " ranks " + ranks);
        int rest = ranks;
        for (int s = 0; s < MOST; s++) {
            x.fact(has(hard, s), RANKS[rest % RANKS.length], WEIGHTS[ranks % WEIGHTS.length][s]);
            rest /= RANKS.length;
        }
        for (int one = 0; one < SETS; one++) {
            for (int other = 0; other < SETS; other++) {
                for (int order = 0; order < 4; order++) {
                    x.due("better " + one + " " + other + " " + order,
                            x.real.better(one, other, order), x.model.better(one, other, order));
                }
            }
        }
        CHECK.isTrue(x.name, !x.check.anyWrong());
    }

    public static void main(String[] args) {
        for (int count = 0; count <= MOST; count++) worlds(count);
        for (int hard = 0; hard < SETS; hard++) {
            for (int ranks = 0; ranks < 27; ranks++) pairs(hard, ranks);
        }
        CHECK.end();
    }
}
