/**
 * Hard statements, defaults with ranks and weights, the sets of them that clash, and the
 * repairs: the kept sets than which none is better by the order that is in force.
 */
public final class DefaultRepair {
    public static final int BAD = -1;
    public static final int NO = -2;
    public static final int FULL = -3;

    private static final int MOST_STATEMENTS = 11;
    private static final int MOST_SETS = 1 << MOST_STATEMENTS;
    private static final int ALL_BITS = MOST_SETS - 1;
    private static final int MOST_CLASHES = 40;
    private static final int MOST_ANSWERS = 8;
    private static final int MOST_SUPPORTS = 20;
    // No repair is a part of another one, by any order, and of 11 statements at most
    // 11 over 5 sets can stand so.
    private static final int MOST_REPAIRS = 462;
    private static final int LOWEST_RANK = 7;
    private static final int MOST_WEIGHT = 1000;

    private static final int BY_PARTS = 0;
    private static final int BY_RANKED_PARTS = 1;
    private static final int BY_RANKED_COUNTS = 2;
    private static final int BY_WEIGHTS = 3;

    // A rank counts at most 11 defaults, so four bits hold its count without a carry.
    private static final int BITS_OF_A_COUNT = 4;

    private int statementCount;
    private int hardBits;
    private final int[] ranks;
    private final int[] weights;

    private final int[] clashes;
    private int clashCount;

    private final int[] supports;
    private final int[] supportAnswers;
    private int supportCount;

    private int orderNow;

    // The repairs are worked out only when they are asked for and something has changed.
    private boolean fresh;
    private final boolean[] clashing;
    private final int[] company;
    private final int[] repairs;
    private int repairCount;

    public DefaultRepair() {
        statementCount = 0;
        hardBits = 0;
        ranks = new int[MOST_STATEMENTS];
        weights = new int[MOST_STATEMENTS];
        clashes = new int[MOST_CLASHES];
        clashCount = 0;
        supports = new int[MOST_SUPPORTS];
        supportAnswers = new int[MOST_SUPPORTS];
        supportCount = 0;
        orderNow = BY_PARTS;
        fresh = false;
        clashing = new boolean[MOST_SETS];
        company = new int[MOST_STATEMENTS];
        repairs = new int[MOST_REPAIRS];
        repairCount = 0;
    }

    public int fact(boolean hard, int rank, int weight) {
        if (!isRank(rank) || !isWeight(weight)) {
            return BAD;
        }
        if (statementCount >= MOST_STATEMENTS) {
            return FULL;
        }
        int statement = statementCount;
        ranks[statement] = rank;
        weights[statement] = weight;
        if (hard) {
            hardBits |= 1 << statement;
        }
        statementCount = statement + 1;
        fresh = false;
        return statement;
    }

    public int harden(int statement, boolean hard) {
        if (!isStatement(statement)) {
            return BAD;
        }
        if (isHard(statement) == hard) {
            return 0;
        }
        hardBits ^= 1 << statement;
        fresh = false;
        return 1;
    }

    public int weight(int statement, int rank, int weight) {
        if (!isStatement(statement) || !isRank(rank) || !isWeight(weight)) {
            return BAD;
        }
        ranks[statement] = rank;
        weights[statement] = weight;
        fresh = false;
        return 1;
    }

    public int clash(int bits) {
        if (clashCount >= MOST_CLASHES) {
            return FULL;
        }
        clashes[clashCount] = bits & ALL_BITS;
        clashCount++;
        fresh = false;
        return clashCount;
    }

    public int settle() {
        if (clashCount <= 0) {
            return NO;
        }
        clashCount--;
        fresh = false;
        return clashCount;
    }

    public int support(int answer, int bits) {
        if (!isAnswer(answer)) {
            return BAD;
        }
        if (supportCount >= MOST_SUPPORTS) {
            return FULL;
        }
        supports[supportCount] = bits & ALL_BITS;
        supportAnswers[supportCount] = answer;
        supportCount++;
        return supportsOf(answer);
    }

    public int order(int order) {
        if (!isOrder(order)) {
            return BAD;
        }
        orderNow = order;
        fresh = false;
        return 1;
    }

    public int find() {
        refresh();
        return repairCount;
    }

    public int kept(int repair) {
        refresh();
        return isRepair(repair) ? repairs[repair] : NO;
    }

    public int left(int repair, int i) {
        refresh();
        if (!isRepair(repair) || i < 0) {
            return NO;
        }
        int set = repairs[repair];
        int before = 0;
        for (int statement = 0; statement < statementCount; statement++) {
            if ((set & (1 << statement)) == 0) {
                if (before == i) {
                    return statement;
                }
                before++;
            }
        }
        return NO;
    }

    public int truth(int answer) {
        if (!isAnswer(answer)) {
            return BAD;
        }
        refresh();
        int holding = 0;
        for (int repair = 0; repair < repairCount; repair++) {
            if (holds(answer, repairs[repair])) {
                holding++;
            }
        }
        return verdict(holding);
    }

    public int surely(int statement) {
        if (!isStatement(statement)) {
            return BAD;
        }
        refresh();
        int holding = 0;
        for (int repair = 0; repair < repairCount; repair++) {
            if ((repairs[repair] & (1 << statement)) != 0) {
                holding++;
            }
        }
        return verdict(holding);
    }

    public int better(int one, int other, int order) {
        if (!isOrder(order)) {
            return BAD;
        }
        int first = one & statementBits();
        int second = other & statementBits();
        return isBetter(first, second, order) ? 1 : 0;
    }

    public int least(int i) {
        if (i < 0 || i >= clashCount) {
            return NO;
        }
        int set = NO;
        for (int k = 0; k <= i; k++) {
            set = leastAfter(set);
            if (set < 0) {
                return NO;
            }
        }
        return set;
    }

    public int size() {
        return statementCount;
    }

    private static boolean isRank(int rank) {
        return rank >= 0 && rank <= LOWEST_RANK;
    }

    private static boolean isWeight(int weight) {
        return weight >= 1 && weight <= MOST_WEIGHT;
    }

    private static boolean isAnswer(int answer) {
        return answer >= 0 && answer < MOST_ANSWERS;
    }

    private static boolean isOrder(int order) {
        return order >= BY_PARTS && order <= BY_WEIGHTS;
    }

    private boolean isStatement(int statement) {
        return statement >= 0 && statement < statementCount;
    }

    private boolean isRepair(int repair) {
        return repair >= 0 && repair < repairCount;
    }

    private boolean isHard(int statement) {
        return (hardBits & (1 << statement)) != 0;
    }

    /** How many sets of the statements there are; each one's bits are below this number. */
    private int setCount() {
        return 1 << statementCount;
    }

    private int statementBits() {
        return setCount() - 1;
    }

    private boolean isBetter(int one, int other, int order) {
        if (order == BY_PARTS) {
            return hasMore(one, other);
        }
        if (order == BY_RANKED_PARTS) {
            return hasMoreByRank(one, other);
        }
        return worth(one, order) > worth(other, order);
    }

    private static boolean isPart(int part, int whole) {
        return (part & ~whole) == 0;
    }

    private static boolean hasMore(int one, int other) {
        return one != other && isPart(other, one);
    }

    private boolean hasMoreByRank(int one, int other) {
        for (int rank = 0; rank <= LOWEST_RANK; rank++) {
            int defaults = defaultsOfRanks(rank, rank);
            if ((one & defaults) != (other & defaults)) {
                return hasMore(one & defaults, other & defaults);
            }
        }
        return false;
    }

    private int defaultsOfRanks(int from, int to) {
        int bits = 0;
        for (int statement = 0; statement < statementCount; statement++) {
            if (!isHard(statement) && ranks[statement] >= from && ranks[statement] <= to) {
                bits |= 1 << statement;
            }
        }
        return bits;
    }

    /** For orders 2 and 3: a number that is greater for one set than for another if it is better. */
    private long worth(int set, int order) {
        long sum = 0;
        for (int statement = 0; statement < statementCount; statement++) {
            if ((set & (1 << statement)) != 0 && !isHard(statement)) {
                sum += order == BY_RANKED_COUNTS
                        ? 1L << (BITS_OF_A_COUNT * (LOWEST_RANK - ranks[statement]))
                        : weights[statement];
            }
        }
        return sum;
    }

    private int supportsOf(int answer) {
        int count = 0;
        for (int k = 0; k < supportCount; k++) {
            if (supportAnswers[k] == answer) {
                count++;
            }
        }
        return count;
    }

    private boolean holds(int answer, int set) {
        for (int k = 0; k < supportCount; k++) {
            if (supportAnswers[k] == answer && isPart(supports[k], set)) {
                return true;
            }
        }
        return false;
    }

    private int verdict(int holding) {
        if (repairCount == 0) {
            return NO;
        }
        if (holding == repairCount) {
            return 2;
        }
        return holding > 0 ? 1 : 0;
    }

    /** The least clash with the next greater bits, or NO; any negative number asks for the first. */
    private int leastAfter(int last) {
        int next = NO;
        for (int k = 0; k < clashCount; k++) {
            int set = clashes[k];
            if (set > last && (next < 0 || set < next) && isLeast(set)) {
                next = set;
            }
        }
        return next;
    }

    private boolean isLeast(int set) {
        if (!isPart(set, statementBits())) {
            return false;
        }
        for (int k = 0; k < clashCount; k++) {
            if (hasMore(set, clashes[k])) {
                return false;
            }
        }
        return true;
    }

    private void refresh() {
        if (fresh) {
            return;
        }
        markClashing();
        repairCount = 0;
        if (orderNow == BY_PARTS || orderNow == BY_RANKED_PARTS) {
            collectFullGrown();
        } else {
            collectWorthiest();
        }
        fresh = true;
    }

    /** A row of all sets, so that trying one statement more is one look and not one at each clash. */
    private void markClashing() {
        int sets = setCount();
        for (int set = 0; set < sets; set++) {
            clashing[set] = false;
        }
        for (int k = 0; k < clashCount; k++) {
            if (clashes[k] < sets) {
                clashing[clashes[k]] = true;
            }
        }
        // Parts have smaller numbers, so they are done before the sets that they are parts of.
        for (int set = 0; set < sets; set++) {
            if (!clashing[set]) {
                clashing[set] = hasClashingPart(set);
            }
        }
    }

    private boolean hasClashingPart(int set) {
        for (int statement = 0; statement < statementCount; statement++) {
            int bit = 1 << statement;
            if ((set & bit) != 0 && clashing[set ^ bit]) {
                return true;
            }
        }
        return false;
    }

    private boolean isKept(int set) {
        return isPart(hardBits, set) && !clashing[set];
    }

    private void addRepair(int set) {
        if (repairCount < MOST_REPAIRS) {
            repairs[repairCount] = set;
            repairCount++;
        }
    }

    private void collectFullGrown() {
        for (int statement = 0; statement < statementCount; statement++) {
            company[statement] = companyOf(statement);
        }
        int sets = setCount();
        for (int set = 0; set < sets; set++) {
            if (isKept(set) && !canGrow(set)) {
                addRepair(set);
            }
        }
    }

    /** What a set may not give up when it takes this statement in to become better. */
    private int companyOf(int statement) {
        if (orderNow == BY_PARTS) {
            return statementBits();
        }
        return hardBits | defaultsOfRanks(0, ranks[statement]);
    }

    /**
     * Whether a kept set is better than this kept one. A kept set stays kept when it gives up
     * defaults, so it is enough to try one statement more, without any of the lower ranks.
     */
    private boolean canGrow(int set) {
        for (int statement = 0; statement < statementCount; statement++) {
            int bit = 1 << statement;
            if ((set & bit) == 0 && !clashing[(set & company[statement]) | bit]) {
                return true;
            }
        }
        return false;
    }

    private void collectWorthiest() {
        int sets = setCount();
        long most = -1;
        for (int set = 0; set < sets; set++) {
            if (isKept(set)) {
                long value = worth(set, orderNow);
                if (value > most) {
                    most = value;
                    repairCount = 0;
                }
                if (value == most) {
                    addRepair(set);
                }
            }
        }
    }
}
