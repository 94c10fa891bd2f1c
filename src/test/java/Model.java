import java.math.BigInteger;
import java.util.ArrayList;
import java.util.Arrays;
import java.util.Collections;
import java.util.LinkedHashSet;
import java.util.List;
import java.util.Set;
import java.util.TreeSet;

/**
 * The document told a second time, by other means: nothing is kept that could be reckoned anew,
 * and what HeatBench steps through is tried out here. Slow; for tests alone.
 */
final class Model {
    private static final class Ride {
        int rider;
        int wave;
        final Integer[] marks = new Integer[5];

        List<Integer> given() {
            List<Integer> given = new ArrayList<>();
            for (Integer mark : marks) {
                if (mark != null) {
                    given.add(mark);
                }
            }
            return given;
        }

        int score() {
            List<Integer> left = given();
            Collections.sort(left);
            if (left.size() >= 4) {
                left = left.subList(1, left.size() - 1);
            }
            int sum = 0;
            for (int mark : left) {
                sum += mark;
            }
            return left.isEmpty() ? 0 : 3 * sum / left.size();
        }
    }

    /** A wave from its first ride until it was let go: the line it began with, and who rode it. */
    private static final class Swell {
        final int wave;
        final List<Integer> order;
        final Set<Integer> riders = new LinkedHashSet<>();

        Swell(int wave, List<Integer> line, int n) {
            this.wave = wave;
            order = new ArrayList<>(line);
            for (int rider = 0; rider < n; rider++) {
                if (!line.contains(rider)) {
                    order.add(rider);
                }
            }
        }

        boolean isFaultOf(int rider) {
            if (!riders.contains(rider)) {
                return false;
            }
            for (int other : order) {
                if (riders.contains(other)) {
                    return other != rider;
                }
            }
            return false;
        }
    }

    private int n;
    private List<Ride> rides;
    private List<Integer> line;
    private List<Swell> swells;
    private boolean open;
    private final List<Integer> past = new ArrayList<>();
    private int d;
    private int[][] spans;
    private Integer[] known;

    Model() {
        heat(2);
        days(5);
    }

    private static boolean in(int v, int least, int most) {
        return v >= least && v <= most;
    }

    int heat(int riders) {
        if (!in(riders, 2, 4)) {
            return -1;
        }
        n = riders;
        rides = new ArrayList<>();
        line = new ArrayList<>();
        for (int i = 0; i < n; i++) {
            line.add(i);
        }
        swells = new ArrayList<>();
        open = false;
        return n;
    }

    int take(int rider, int wave) {
        if (!in(rider, 0, n - 1) || !in(wave, 0, 99)) {
            return -1;
        }
        if (!line.contains(rider)) {
            return -3;
        }
        if (rides.size() == 30) {
            return -2;
        }
        if (!open || swells.get(swells.size() - 1).wave != wave) {
            swells.add(new Swell(wave, line, n));
        }
        open = true;
        swells.get(swells.size() - 1).riders.add(rider);
        line.remove((Integer) rider);
        Ride ride = new Ride();
        ride.rider = rider;
        ride.wave = wave;
        rides.add(ride);
        return rides.size() - 1;
    }

    int back(int rider) {
        if (!in(rider, 0, n - 1)) {
            return -1;
        }
        if (line.contains(rider)) {
            return -3;
        }
        line.add(rider);
        return line.size();
    }

    int letGo() {
        int was = open ? 1 : 0;
        open = false;
        return was;
    }

    int mark(int ride, int judge, int v) {
        if (!in(ride, 0, rides.size() - 1) || !in(judge, 0, 4) || !in(v, -1, 100)) {
            return -9;
        }
        Integer[] marks = rides.get(ride).marks;
        Integer before = marks[judge];
        marks[judge] = v == -1 ? null : (Integer) v;
        return before == null ? -1 : before;
    }

    int of(int ride, int what) {
        if (!in(ride, 0, rides.size() - 1) || !in(what, 0, 3)) {
            return -1;
        }
        Ride it = rides.get(ride);
        return new int[] {it.rider, it.wave, it.given().size(), it.score()}[what];
    }

    int line(int i) {
        return in(i, 0, line.size() - 1) ? line.get(i) : -4;
    }

    private int faults(int rider) {
        int count = 0;
        for (Swell swell : swells) {
            count += swell.isFaultOf(rider) ? 1 : 0;
        }
        return count;
    }

    /** Scores of each rider, greatest first, with two zeroes behind them, when ride i is of rider owner[i]. */
    private List<List<Integer>> scores(int[] owner) {
        List<List<Integer>> all = new ArrayList<>();
        for (int rider = 0; rider < n; rider++) {
            all.add(new ArrayList<>(List.of(0, 0)));
        }
        for (int i = 0; i < owner.length; i++) {
            all.get(owner[i]).add(rides.get(i).score());
        }
        return all;
    }

    private int[] owners() {
        int[] owner = new int[rides.size()];
        for (int i = 0; i < owner.length; i++) {
            owner[i] = rides.get(i).rider;
        }
        return owner;
    }

    private int total(int rider, List<Integer> scores) {
        scores.sort(Collections.reverseOrder());
        int faults = faults(rider);
        if (faults >= 2) {
            return scores.get(0) / 2;
        }
        return scores.get(0) + (faults == 1 ? scores.get(1) / 2 : scores.get(1));
    }

    private int place(int rider, List<List<Integer>> scores) {
        // One number that orders riders: total, then best, then the lesser number.
        long[] rank = new long[n];
        for (int i = 0; i < n; i++) {
            rank[i] = (total(i, scores.get(i)) * 1000L + scores.get(i).get(0)) * 10L - i;
        }
        int better = 0;
        for (int i = 0; i < n; i++) {
            better += rank[i] > rank[rider] ? 1 : 0;
        }
        return better;
    }

    int told(int rider, int what) {
        if (!in(rider, 0, n - 1) || !in(what, 0, 5)) {
            return -1;
        }
        List<List<Integer>> scores = scores(owners());
        List<Integer> own = scores.get(rider);
        int total = total(rider, own);
        return new int[] {own.size() - 2, own.get(0), own.get(1), faults(rider), total, place(rider, scores)}[what];
    }

    int need(int rider, int k) {
        if (!in(rider, 0, n - 1) || !in(k, 0, 3)) {
            return -1;
        }
        int need = -4;
        for (int score = 300; score >= 0; score--) {
            List<List<Integer>> scores = scores(owners());
            scores.get(rider).add(score);
            if (place(rider, scores) <= k) {
                need = score;
            }
        }
        return need;
    }

    int past(int score) {
        if (!in(score, 0, 300)) {
            return -1;
        }
        if (past.size() == 40) {
            return -2;
        }
        past.add(score);
        return past.size();
    }

    int keep() {
        List<Integer> coming = new ArrayList<>();
        for (Ride ride : rides) {
            if (!ride.given().isEmpty()) {
                coming.add(ride.score());
            }
        }
        if (past.size() + coming.size() > 40) {
            return -2;
        }
        past.addAll(coming);
        return coming.size();
    }

    int forget() {
        int size = past.size();
        past.clear();
        return size;
    }

    private static long part(BigInteger above, BigInteger below, int what) {
        BigInteger g = above.gcd(below);
        return (what == 0 ? above : below).divide(g).longValueExact();
    }

    int chance(int rider, int k, int what) {
        int need = need(rider, k);
        if (need == -1 || !in(what, 0, 1)) {
            return -1;
        }
        if (need == -4) {
            return -4;
        }
        int above = 0;
        for (int score : past) {
            above += score >= need ? 1 : 0;
        }
        int below = past.isEmpty() ? 1 : past.size();
        return (int) part(BigInteger.valueOf(above), BigInteger.valueOf(below), what);
    }

    int ways() {
        return rides.size() > 8 ? -5 : dealt(-1);
    }

    int luck(int rider) {
        if (!in(rider, 0, n - 1)) {
            return -1;
        }
        return rides.size() > 8 ? -5 : dealt(rider);
    }

    /** Tries every way to hand the rides to riders; how many are right and put the rider (-1: any) first. */
    private int dealt(int rider) {
        int[] own = owners();
        int[] sorted = own.clone();
        Arrays.sort(sorted);
        int codes = 1;
        for (int i = 0; i < own.length; i++) {
            codes *= n;
        }
        int count = 0;
        for (int code = 0; code < codes; code++) {
            int[] owner = new int[own.length];
            int rest = code;
            for (int i = 0; i < owner.length; i++) {
                owner[i] = rest % n;
                rest /= n;
            }
            int[] check = owner.clone();
            Arrays.sort(check);
            if (Arrays.equals(check, sorted) && (rider < 0 || place(rider, scores(owner)) == 0)) {
                count++;
            }
        }
        return count;
    }

    int days(int days) {
        if (!in(days, 1, 9)) {
            return -1;
        }
        d = days;
        spans = new int[d][];
        known = new Integer[d];
        for (int i = 0; i < d; i++) {
            spans[i] = new int[] {0, 9};
        }
        return d;
    }

    int span(int day, int a, int b) {
        if (!in(day, 0, d - 1) || !in(a, 0, 9) || !in(b, 0, 9) || a > b) {
            return -1;
        }
        spans[day] = new int[] {a, b};
        known[day] = null;
        return 1;
    }

    int was(int day, int q) {
        if (!in(day, 0, d - 1) || (q != -1 && !in(q, spans[day][0], spans[day][1]))) {
            return -9;
        }
        Integer before = known[day];
        known[day] = q == -1 ? null : (Integer) q;
        return before == null ? -1 : before;
    }

    /** WORTH as a pair of numbers above and below the line, not cleared; null if there is none. */
    private BigInteger[] worthOf(int day, int r) {
        if (r > d - day || r < 0) {
            return null;
        }
        if (day == d) {
            return new BigInteger[] {BigInteger.ZERO, BigInteger.ONE};
        }
        BigInteger[] called = worthOf(day + 1, r - 1);
        BigInteger[] waited = worthOf(day + 1, r);
        BigInteger[] sum = {BigInteger.ZERO, BigInteger.ONE};
        for (int q = spans[day][0]; q <= spans[day][1]; q++) {
            sum = plus(sum, greater(called == null ? null : plus(called, whole(q)), waited));
        }
        int width = spans[day][1] - spans[day][0] + 1;
        return new BigInteger[] {sum[0], sum[1].multiply(BigInteger.valueOf(width))};
    }

    private static BigInteger[] whole(int q) {
        return new BigInteger[] {BigInteger.valueOf(q), BigInteger.ONE};
    }

    private static BigInteger[] plus(BigInteger[] x, BigInteger[] y) {
        BigInteger above = x[0].multiply(y[1]).add(y[0].multiply(x[1]));
        BigInteger below = x[1].multiply(y[1]);
        BigInteger g = above.gcd(below);
        return new BigInteger[] {above.divide(g), below.divide(g)};
    }

    private static BigInteger[] greater(BigInteger[] x, BigInteger[] y) {
        if (x == null || y == null) {
            return x == null ? y : x;
        }
        return notBelow(x, y) ? x : y;
    }

    private static boolean notBelow(BigInteger[] x, BigInteger[] y) {
        return x[0].multiply(y[1]).compareTo(y[0].multiply(x[1])) >= 0;
    }

    long worth(int day, int r, int what) {
        if (!in(day, 0, d) || !in(r, 0, 9) || !in(what, 0, 1)) {
            return -9;
        }
        BigInteger[] worth = worthOf(day, r);
        return worth == null ? -4 : part(worth[0], worth[1], what);
    }

    int call(int day, int r, int q) {
        if (!in(day, 0, d - 1) || !in(r, 0, 9) || !in(q, 0, 9)) {
            return -1;
        }
        if (d - day < r) {
            return -4;
        }
        if (r == 0) {
            return 0;
        }
        BigInteger[] waited = worthOf(day + 1, r);
        return waited == null || notBelow(plus(worthOf(day + 1, r - 1), whole(q)), waited) ? 1 : 0;
    }

    int run(int r, int what) {
        if (!in(r, 0, d) || !in(what, 0, 2)) {
            return -1;
        }
        Set<Integer> called = new TreeSet<>();
        int day = 0;
        for (; day < d && known[day] != null; day++) {
            if (call(day, r - called.size(), known[day]) == 1) {
                called.add(day);
            }
        }
        int bits = 0;
        int sum = 0;
        for (int one : called) {
            bits += 1 << one;
            sum += known[one];
        }
        return new int[] {bits, sum, day}[what];
    }

    int behind(int r) {
        if (!in(r, 0, d)) {
            return -1;
        }
        if (many(5) < d) {
            return -4;
        }
        int greatest = 0;
        for (int bits = 0; bits < 1 << d; bits++) {
            int sum = 0;
            for (int day = 0; day < d; day++) {
                sum += (bits >> day & 1) * known[day];
            }
            greatest = Integer.bitCount(bits) == r ? Math.max(greatest, sum) : greatest;
        }
        return greatest;
    }

    int many(int what) {
        int knownDays = 0;
        for (Integer q : known) {
            knownDays += q == null ? 0 : 1;
        }
        int faults = 0;
        for (int rider = 0; rider < n; rider++) {
            faults += faults(rider);
        }
        int[] all = {n, rides.size(), line.size(), past.size(), d, knownDays, faults};
        return in(what, 0, 6) ? all[what] : -1;
    }
}
