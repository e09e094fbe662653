import java.util.ArrayList;
import java.util.Arrays;
import java.util.List;
import java.util.function.Consumer;
import java.util.function.Function;
import java.util.function.ToIntFunction;

/**
 * Calls that change nothing, refused ones and questions: their answers, and that the calls behind
 * them answer as if they had not been made. Two objects are made alike; one of them gets the call,
 * and then both are looked at.
 */
final class Twins {
    private static final int LOOKED_AT = 12;

    private static final List<Function<Counted, List<Integer>>> VIEWS = Arrays.asList(
            Twins::asked, Twins::byAllOrders, Twins::compared, Twins::settled, Twins::filled);

    private final Check check;

    Twins(Check check) {
        this.check = check;
    }

    void due(String what, Consumer<Counted> making, ToIntFunction<Counted> call, int answer) {
        for (int view = 0; view < VIEWS.size(); view++) {
            // An object that has been asked may have its repairs still in mind.
            for (int askedBefore = 0; askedBefore < 2; askedBefore++) {
                Counted with = made(making, askedBefore == 1);
                Counted without = made(making, askedBefore == 1);
                check.due(what, call.applyAsInt(with), answer);
                List<Integer> got = VIEWS.get(view).apply(with);
                List<Integer> want = VIEWS.get(view).apply(without);
                check.isTrue(what + ": view " + view + " of it is " + got + ", without it " + want, got.equals(want));
            }
        }
    }

    private static Counted made(Consumer<Counted> making, boolean asked) {
        Counted x = new Counted();
        making.accept(x);
        if (asked) x.find();
        return x;
    }

    private static List<Integer> asked(Counted x) {
        List<Integer> seen = new ArrayList<>();
        seen.add(x.size());
        seen.add(x.find());
        for (int k = 0; k < LOOKED_AT; k++) {
            seen.add(x.kept(k));
            seen.add(x.truth(k));
            seen.add(x.surely(k));
            seen.add(x.least(k));
            for (int i = 0; i < LOOKED_AT; i++) seen.add(x.left(k, i));
        }
        return seen;
    }

    private static List<Integer> byAllOrders(Counted x) {
        List<Integer> seen = new ArrayList<>();
        for (int order = 0; order < 4; order++) {
            seen.add(x.order(order));
            seen.add(x.find());
            for (int k = 0; k < LOOKED_AT; k++) {
                seen.add(x.kept(k));
                seen.add(x.truth(k));
                seen.add(x.surely(k));
            }
        }
        return seen;
    }

    /** Which statements are hard, and how their ranks and weights stand to one another. */
    private static List<Integer> compared(Counted x) {
        List<Integer> seen = new ArrayList<>();
        for (int statement = 0; statement < LOOKED_AT; statement++) seen.add(x.harden(statement, false));
        for (int one = 0; one < 11; one++) {
            for (int other = 0; other < 11; other++) {
                seen.add(x.better(1 << one, 1 << other, 2));
                seen.add(x.better(1 << one, 1 << other, 3));
            }
        }
        return seen;
    }

    private static List<Integer> settled(Counted x) {
        List<Integer> seen = new ArrayList<>();
        for (int k = 0; k < 42; k++) {
            for (int i = 0; i < 4; i++) seen.add(x.least(i));
            seen.add(x.find());
            seen.add(x.kept(0));
            seen.add(x.settle());
        }
        return seen;
    }

    private static List<Integer> filled(Counted x) {
        List<Integer> seen = new ArrayList<>();
        for (int answer = 0; answer < 9; answer++) {
            seen.add(x.support(answer, 0));
            seen.add(x.truth(answer));
        }
        for (int k = 0; k < 42; k++) {
            seen.add(x.fact(false, 0, 1));
            seen.add(x.clash(1 << (k % 11)));
            seen.add(x.support(k % 8, 0));
            seen.add(x.find());
        }
        return seen;
    }
}
