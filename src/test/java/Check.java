import java.util.function.Function;
import java.util.function.Supplier;
import java.util.function.ToLongFunction;

/** Counts the answers that are not as due, and prints each of them. */
final class Check {
    private String name;
    private int looked = 0;
    private int wrong = 0;

    Check(String name) {
        this.name = name;
    }

    int looked() {
        return looked;
    }

    /** What follows is told under this name. */
    void under(String newName) {
        name = newName;
    }

    void due(String call, long got, long want) {
        looked++;
        if (got != want) {
            wrong++;
            System.out.println(name + ": " + call + " answered " + got + ", due is " + want);
        }
    }

    void same(String what, String got, String want) {
        looked++;
        if (!got.equals(want)) {
            wrong++;
            System.out.println(name + ": " + what + "\n  is  " + got + "\n  due " + want);
        }
    }

    /** A call that is refused in a state, and changes nothing of it. */
    void refused(String call, Supplier<Bench> state, ToLongFunction<Bench> ask, long want) {
        due(call, ask.applyAsLong(state.get()), want);
        unchanged(call, state, ask);
    }

    void unchanged(String call, Supplier<Bench> state, ToLongFunction<Bench> ask) {
        for (Function<Bench, String> view : Views.ALL) {
            Bench asked = state.get();
            ask.applyAsLong(asked);
            same("after " + call, view.apply(asked), view.apply(state.get()));
        }
    }

    void end() {
        System.out.println(name + ": " + looked + " answers, " + wrong + " not as due");
        if (wrong != 0 || looked == 0) {
            System.exit(1);
        }
    }
}
