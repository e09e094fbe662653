import java.util.Random;

/** Runs of up to 512 calls, always the same ones, compared call by call with the model. */
public final class ModelTest {
    private static final int[] ODD = {
        Integer.MIN_VALUE, Integer.MAX_VALUE, -1, -2, 7, 8, 11, 12, 40, 1000, 1001, 2047, 2048, 1 << 31 | 5
    };

    private static final int MOST_ASKED_AT_LAST = 90;

    private final Check check = new Check();
    private final Random random;
    private final int run;
    private final int mostStatements;
    private final Counted real = new Counted();
    private final Model model = new Model();

    private ModelTest(int run) {
        this.run = run;
        random = new Random(run);
        // Few of the runs have many statements: the model compares each kept set with each other one.
        mostStatements = run % 50 == 0 ? 12 : 1 + random.nextInt(7);
    }

    private int number(int bound) {
        return random.nextInt(12) == 0 ? ODD[random.nextInt(ODD.length)] : random.nextInt(bound);
    }

    private int bits() {
        int shape = random.nextInt(40);
        if (shape == 0) return 0;
        if (shape == 1) return random.nextInt();
        int set = 0;
        int parts = 1 + random.nextInt(4);
        for (int k = 0; k < parts; k++) set |= 1 << random.nextInt(Math.min(11, mostStatements + 1));
        return set;
    }

    private void change() {
        boolean hard = random.nextInt(6) == 0;
        int a = number(11);
        int rank = number(random.nextBoolean() ? 3 : 8);
        int weight = 1 + number(random.nextBoolean() ? 4 : 1000);
        int set = bits();
        String where = "run " + run + ": ";
        switch (random.nextInt(8)) {
            case 0, 1 -> {
                if (model.size() < mostStatements) {
                    check.due(where + "fact", real.fact(hard, rank, weight), model.fact(hard, rank, weight));
                }
            }
            case 2 -> check.due(where + "harden", real.harden(a, hard), model.harden(a, hard));
            case 3 -> check.due(where + "weight", real.weight(a, rank, weight), model.weight(a, rank, weight));
            case 4, 5 -> check.due(where + "clash " + set, real.clash(set), model.clash(set));
            case 6 -> {
                check.due(where + "settle", real.settle(), model.settle());
                check.due(where + "support", real.support(a % 9, set), model.support(a % 9, set));
            }
            default -> {
                int order = number(4);
                check.due(where + "order", real.order(order), model.order(order));
            }
        }
    }

    private void ask() {
        int a = number(11);
        int b = number(5);
        String where = "run " + run + ": ";
        switch (random.nextInt(8)) {
            case 0 -> check.due(where + "find", real.find(), model.find());
            case 1 -> check.due(where + "kept " + b, real.kept(b), model.kept(b));
            case 2 -> check.due(where + "left " + b + " " + a, real.left(b, a), model.left(b, a));
            case 3 -> check.due(where + "truth " + a, real.truth(a), model.truth(a));
            case 4 -> check.due(where + "surely " + a, real.surely(a), model.surely(a));
            case 5 -> {
                int one = random.nextInt();
                int other = random.nextBoolean() ? random.nextInt() : one & random.nextInt();
                check.due(where + "better " + one + " " + other + " " + b,
                        real.better(one, other, b), model.better(one, other, b));
            }
            case 6 -> check.due(where + "least " + b, real.least(b), model.least(b));
            default -> check.due(where + "size", real.size(), model.size());
        }
    }

    /** Every repair by one order, and every least clash, at the end of a run. */
    private void askAll() {
        int order = (run + run / 50) % 4;
        String where = "run " + run + " order " + order + ": ";
        check.due(where + "order", real.order(order), model.order(order));
        for (int repair = 0; repair <= model.find() && repair < MOST_ASKED_AT_LAST; repair++) {
            check.due(where + "kept " + repair, real.kept(repair), model.kept(repair));
        }
        for (int i = 0; i <= 40; i++) {
            check.due("run " + run + " least " + i, real.least(i), model.least(i));
        }
    }

    private Check made() {
        while (real.calls() < Counted.MOST_CALLS - 43 - MOST_ASKED_AT_LAST) {
            if (random.nextInt(3) == 0) change();
            else ask();
        }
        askAll();
        return check;
    }

    public static void main(String[] args) {
        Check runs = new Check();
        for (int run = 1; run <= 1500; run++) {
            runs.isTrue("run " + run, !new ModelTest(run).made().anyWrong());
        }
        runs.end();
    }
}
