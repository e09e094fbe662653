/**
 * An object of the class that counts its calls. What the class answers after the 512th call is
 * free, so a test that looks further than that is itself at fault, and is stopped here.
 */
final class Counted {
    static final int MOST_CALLS = 512;

    private final DefaultRepair real = new DefaultRepair();
    private int calls = 0;

    int calls() {
        return calls;
    }

    private DefaultRepair called() {
        calls++;
        if (calls > MOST_CALLS) {
            throw new IllegalStateException("a test makes more than " + MOST_CALLS + " calls on one object");
        }
        return real;
    }

    int fact(boolean hard, int rank, int weight) {
        return called().fact(hard, rank, weight);
    }

    int harden(int statement, boolean hard) {
        return called().harden(statement, hard);
    }

    int weight(int statement, int rank, int weight) {
        return called().weight(statement, rank, weight);
    }

    int clash(int bits) {
        return called().clash(bits);
    }

    int settle() {
        return called().settle();
    }

    int support(int answer, int bits) {
        return called().support(answer, bits);
    }

    int order(int order) {
        return called().order(order);
    }

    int find() {
        return called().find();
    }

    int kept(int repair) {
        return called().kept(repair);
    }

    int left(int repair, int i) {
        return called().left(repair, i);
    }

    int truth(int answer) {
        return called().truth(answer);
    }

    int surely(int statement) {
        return called().surely(statement);
    }

    int better(int one, int other, int order) {
        return called().better(one, other, order);
    }

    int least(int i) {
        return called().least(i);
    }

    int size() {
        return called().size();
    }
}
