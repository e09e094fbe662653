import java.util.ArrayList;
import java.util.List;
import java.util.TreeSet;

/** The document's words, followed literally and slowly, to compare the class with. */
final class Model {
    private static final class Statement {
        boolean hard;
        int rank;
        int weight;
    }

    private static final class Support {
        int answer;
        int bits;
    }

    private final List<Statement> statements = new ArrayList<>();
    private final List<Integer> clashes = new ArrayList<>();
    private final List<Support> supports = new ArrayList<>();
    private int orderNow = 0;
    private List<Integer> known = null;

    int fact(boolean hard, int rank, int weight) {
        if (rank < 0 || rank > 7 || weight < 1 || weight > 1000) return -1;
        if (statements.size() == 11) return -3;
        Statement s = new Statement();
        s.hard = hard;
        s.rank = rank;
        s.weight = weight;
        statements.add(s);
        known = null;
        return statements.size() - 1;
    }

    private boolean there(int statement) {
        return statement >= 0 && statement < statements.size();
    }

    int harden(int statement, boolean hard) {
        if (!there(statement)) return -1;
        Statement s = statements.get(statement);
        if (s.hard == hard) return 0;
        s.hard = hard;
        known = null;
        return 1;
    }

    int weight(int statement, int rank, int weight) {
        if (!there(statement) || rank < 0 || rank > 7 || weight < 1 || weight > 1000) return -1;
        statements.get(statement).rank = rank;
        statements.get(statement).weight = weight;
        known = null;
        return 1;
    }

    int clash(int bits) {
        if (clashes.size() == 40) return -3;
        clashes.add(bits & 2047);
        known = null;
        return clashes.size();
    }

    int settle() {
        if (clashes.isEmpty()) return -2;
        clashes.remove(clashes.size() - 1);
        known = null;
        return clashes.size();
    }

    int support(int answer, int bits) {
        if (answer < 0 || answer > 7) return -1;
        if (supports.size() == 20) return -3;
        Support s = new Support();
        s.answer = answer;
        s.bits = bits & 2047;
        supports.add(s);
        return (int) supports.stream().filter(t -> t.answer == answer).count();
    }

    int order(int order) {
        if (order < 0 || order > 3) return -1;
        orderNow = order;
        known = null;
        return 1;
    }

    private static boolean has(int set, int statement) {
        return (set >> statement & 1) == 1;
    }

    private static boolean hasAll(int set, int part) {
        for (int s = 0; s < 11; s++) {
            if (has(part, s) && !has(set, s)) return false;
        }
        return true;
    }

    private boolean isClash(int bits) {
        for (int s = statements.size(); s < 11; s++) {
            if (has(bits, s)) return false;
        }
        return true;
    }

    private boolean isKept(int set) {
        for (int s = 0; s < statements.size(); s++) {
            if (statements.get(s).hard && !has(set, s)) return false;
        }
        for (int clash : clashes) {
            if (isClash(clash) && hasAll(set, clash)) return false;
        }
        return true;
    }

    private int defaultsIn(int set, int rank) {
        int bits = 0;
        for (int s = 0; s < statements.size(); s++) {
            Statement statement = statements.get(s);
            if (has(set, s) && !statement.hard && statement.rank == rank) bits |= 1 << s;
        }
        return bits;
    }

    private int weightOf(int set) {
        int sum = 0;
        for (int s = 0; s < statements.size(); s++) {
            if (has(set, s) && !statements.get(s).hard) sum += statements.get(s).weight;
        }
        return sum;
    }

    private boolean isBetter(int one, int other, int order) {
        if (order == 0) return one != other && hasAll(one, other);
        if (order == 3) return weightOf(one) > weightOf(other);
        for (int rank = 0; rank <= 7; rank++) {
            int a = defaultsIn(one, rank);
            int b = defaultsIn(other, rank);
            if (order == 1 && a != b) return hasAll(a, b);
            int more = Integer.bitCount(a) - Integer.bitCount(b);
            if (order == 2 && more != 0) return more > 0;
        }
        return false;
    }

    private List<Integer> repairs() {
        if (known != null) return known;
        List<Integer> all = new ArrayList<>();
        for (int set = 0; set < 1 << statements.size(); set++) {
            if (isKept(set)) all.add(set);
        }
        known = new ArrayList<>();
        for (int set : all) {
            if (all.stream().noneMatch(other -> isBetter(other, set, orderNow))) known.add(set);
        }
        return known;
    }

    int find() {
        return repairs().size();
    }

    int kept(int repair) {
        return repair >= 0 && repair < find() ? repairs().get(repair) : -2;
    }

    int left(int repair, int i) {
        if (repair < 0 || repair >= find()) return -2;
        List<Integer> without = new ArrayList<>();
        for (int s = 0; s < statements.size(); s++) {
            if (!has(kept(repair), s)) without.add(s);
        }
        return i >= 0 && i < without.size() ? without.get(i) : -2;
    }

    private int verdict(long holding) {
        if (find() == 0) return -2;
        return holding == find() ? 2 : holding > 0 ? 1 : 0;
    }

    int truth(int answer) {
        if (answer < 0 || answer > 7) return -1;
        return verdict(repairs().stream().filter(set ->
                supports.stream().anyMatch(s -> s.answer == answer && hasAll(set, s.bits))).count());
    }

    int surely(int statement) {
        if (!there(statement)) return -1;
        return verdict(repairs().stream().filter(set -> has(set, statement)).count());
    }

    int better(int one, int other, int order) {
        if (order < 0 || order > 3) return -1;
        int there = (1 << statements.size()) - 1;
        return isBetter(one & there, other & there, order) ? 1 : 0;
    }

    int least(int i) {
        TreeSet<Integer> least = new TreeSet<>();
        for (int clash : clashes) {
            if (isClash(clash) && clashes.stream().noneMatch(part -> part != clash && hasAll(clash, part))) {
                least.add(clash);
            }
        }
        List<Integer> sorted = new ArrayList<>(least);
        return i >= 0 && i < sorted.size() ? sorted.get(i) : -2;
    }

    int size() {
        return statements.size();
    }
}
