/** Counts the answers that are not as due, and prints each of them. */
final class Check {
    private final String name;
    private int looked = 0;
    private int wrong = 0;

    Check(String name) {
        this.name = name;
    }

    void due(String call, long got, long want) {
        looked++;
        if (got != want) {
            wrong++;
            System.out.println(name + ": " + call + " answered " + got + ", due is " + want);
        }
    }

    void same(String what, String got, String want) {
        looked++;
        if (!got.equals(want)) {
            wrong++;
            System.out.println(name + ": " + what + "\n  is  " + got + "\n  due " + want);
        }
    }

    /** As due(), for a call that must not have changed what could be seen of the object before it. */
    void refused(HeatBench x, String call, long got, long want, String before) {
        due(call, got, want);
        same("after " + call, Sight.of(x), before);
    }

    void end() {
        System.out.println(name + ": " + looked + " answers, " + wrong + " not as due");
        if (wrong != 0 || looked == 0) {
            System.exit(1);
        }
    }
}
