import java.util.Random;

/** Runs of random calls (the same ones each time), each answered by HeatBench as by the Model. */
public final class RandomRunsTest {
    private static final Check CHECK = new Check("RandomRunsTest");
    private static final int[] WILD = {
        Integer.MIN_VALUE, Integer.MAX_VALUE, -2, -1, 10, 30, 31, 32, 100, 101, 300, 301, 1 << 29, 858993460,
    };

    /** How often each of the 23 methods is called, by the kind of run. */
    private static final int[][] WEIGHTS = {
        {1, 9, 9, 2, 9, 3, 2, 6, 2, 2, 1, 1, 2, 1, 1, 1, 4, 4, 3, 3, 3, 1, 3},
        {3, 30, 30, 2, 40, 3, 3, 9, 3, 2, 1, 1, 3, 2, 2, 0, 0, 0, 0, 0, 0, 0, 2},
        {6, 20, 20, 4, 20, 2, 2, 6, 2, 1, 1, 1, 1, 5, 5, 0, 0, 0, 0, 0, 0, 0, 2},
        {0, 30, 30, 1, 20, 4, 4, 9, 4, 9, 4, 0, 9, 1, 1, 0, 0, 0, 0, 0, 0, 0, 2},
        {0, 1, 1, 0, 1, 0, 0, 0, 0, 0, 0, 0, 0, 0, 0, 1, 9, 40, 9, 9, 9, 9, 2},
    };

    private final Random random;
    private final Bench bench = new Bench();
    private final Model model = new Model();
    private final int[] weights;
    private final boolean fewWaves;
    private final int wildness;

    private RandomRunsTest(long seed) {
        random = new Random(seed);
        weights = WEIGHTS[random.nextInt(WEIGHTS.length)];
        fewWaves = random.nextBoolean();
        wildness = random.nextInt(4) == 0 ? 10 : 60;
    }

    public static void main(String[] args) {
        int runs = args.length > 0 ? Integer.parseInt(args[0]) : 400;
        for (int seed = 0; seed < runs; seed++) {
            new RandomRunsTest(seed).go(seed);
        }
        CHECK.end();
    }

    private void go(int seed) {
        for (int i = 0; i < Bench.MOST_CALLS; i++) {
            step(seed, i, pick());
        }
    }

    private int pick() {
        int sum = 0;
        for (int weight : weights) {
            sum += weight;
        }
        int at = random.nextInt(sum);
        for (int method = 0; method < weights.length; method++) {
            at -= weights[method];
            if (at < 0) {
                return method;
            }
        }
        return 0;
    }

    /** A number of a range, or now and then one just beside it, or a wild one. */
    private int number(int least, int most) {
        int way = random.nextInt(wildness);
        if (way == 0) {
            return WILD[random.nextInt(WILD.length)];
        }
        if (way == 1) {
            return random.nextBoolean() ? least - 1 : most + 1;
        }
        return least + random.nextInt(most - least + 1);
    }

    private int rider() {
        return number(0, model.many(0) - 1);
    }

    private int ride() {
        return number(0, Math.max(0, model.many(1) - 1));
    }

    private int wave() {
        return fewWaves ? number(0, 1) : number(0, 99);
    }

    /** Like marks are wanted often, for ties. */
    private int someMark() {
        return random.nextInt(3) == 0 ? number(-1, 100) : number(1, 4) * 25;
    }

    private int day() {
        return number(0, model.many(4) - 1);
    }

    private int left() {
        return number(0, random.nextInt(3) == 0 ? 9 : 3);
    }

    private void step(int seed, int i, int method) {
        int a;
        int b;
        int c;
        long got;
        long want;
        switch (method) {
            case 0 -> { a = number(2, 4); b = c = 0; got = bench.heat(a); want = model.heat(a); }
            case 1 -> { a = rider(); b = wave(); c = 0; got = bench.take(a, b); want = model.take(a, b); }
            case 2 -> { a = rider(); b = c = 0; got = bench.back(a); want = model.back(a); }
            case 3 -> { a = b = c = 0; got = bench.letGo(); want = model.letGo(); }
            case 4 -> {
                a = ride(); b = number(0, 4); c = someMark();
                got = bench.mark(a, b, c); want = model.mark(a, b, c);
            }
            case 5 -> { a = ride(); b = number(0, 3); c = 0; got = bench.of(a, b); want = model.of(a, b); }
            case 6 -> { a = number(0, 3); b = c = 0; got = bench.line(a); want = model.line(a); }
            case 7 -> { a = rider(); b = number(0, 5); c = 0; got = bench.told(a, b); want = model.told(a, b); }
            case 8 -> { a = rider(); b = number(0, 3); c = 0; got = bench.need(a, b); want = model.need(a, b); }
            case 9 -> { a = number(0, 300); b = c = 0; got = bench.past(a); want = model.past(a); }
            case 10 -> { a = b = c = 0; got = bench.keep(); want = model.keep(); }
            case 11 -> { a = b = c = 0; got = bench.forget(); want = model.forget(); }
            case 12 -> {
                a = rider(); b = number(0, 3); c = number(0, 1);
                got = bench.chance(a, b, c); want = model.chance(a, b, c);
            }
            case 13 -> { a = b = c = 0; got = bench.ways(); want = model.ways(); }
            case 14 -> { a = rider(); b = c = 0; got = bench.luck(a); want = model.luck(a); }
            case 15 -> { a = number(1, 9); b = c = 0; got = bench.days(a); want = model.days(a); }
            case 16 -> {
                a = day(); b = number(0, 9); c = random.nextInt(4) == 0 ? number(0, 9) : number(Math.max(0, Math.min(b, 9)), 9);
                got = bench.span(a, b, c); want = model.span(a, b, c);
            }
            case 17 -> { a = day(); b = number(0, 9); c = 0; got = bench.was(a, b); want = model.was(a, b); }
            case 18 -> {
                a = number(0, model.many(4)); b = left(); c = number(0, 1);
                got = bench.worth(a, b, c); want = model.worth(a, b, c);
            }
            case 19 -> {
                a = day(); b = left(); c = number(0, 9);
                got = bench.call(a, b, c); want = model.call(a, b, c);
            }
            case 20 -> {
                a = number(0, model.many(4)); b = number(0, 2); c = 0;
                got = bench.run(a, b); want = model.run(a, b);
            }
            case 21 -> { a = number(0, model.many(4)); b = c = 0; got = bench.behind(a); want = model.behind(a); }
            default -> { a = number(0, 6); b = c = 0; got = bench.many(a); want = model.many(a); }
        }
        CHECK.due("run " + seed + ", call " + i + ": method " + method + " of " + a + ", " + b + ", " + c, got, want);
    }
}
