/**
 * A surf contest: heats with an order of who may go first, judges' marks, past scores,
 * rides dealt anew, and the days on which to call the contest on.
 *
 * The public methods look at every argument and name the refusal; the classes inside are
 * only handed numbers that have passed there.
 */
public final class HeatBench {
    public static final int NUMBER = -1;
    public static final int FULL = -2;
    public static final int STATE = -3;
    public static final int NONE = -4;
    public static final int LARGE = -5;

    /** NUMBER as answered by the calls where -1 is an ordinary answer. */
    private static final int WRONG = -9;

    private static final int LEAST_RIDERS = 2;
    private static final int MOST_RIDERS = 4;
    private static final int MOST_RIDES = 30;
    private static final int LAST_WAVE = 99;
    private static final int JUDGES = 5;
    private static final int BEST_MARK = 100;
    private static final int BEST_SCORE = 300;
    private static final int MARKS_PER_SCORE = 3;
    private static final int MOST_PAST = 40;
    private static final int MOST_DEALT = 8;
    private static final int FIRST_DAYS = 5;
    private static final int MOST_DAYS = 9;
    private static final int BEST_DAY = 9;
    private static final int NO_MARK = -1;
    private static final int UNKNOWN = -1;
    private static final int NO_WAVE = -1;

    private final Heat heat;
    private final Past past;
    private final Wait wait;

    public HeatBench() {
        heat = new Heat();
        past = new Past();
        wait = new Wait();
    }

    // ---- heats

    public int heat(int n) {
        if (n < LEAST_RIDERS || n > MOST_RIDERS) {
            return NUMBER;
        }
        heat.begin(n);
        return n;
    }

    public int take(int rider, int wave) {
        if (!heat.hasRider(rider) || wave < 0 || wave > LAST_WAVE) {
            return NUMBER;
        }
        if (!heat.line.holds(rider)) {
            return STATE;
        }
        if (heat.rides >= MOST_RIDES) {
            return FULL;
        }
        return heat.addRide(rider, wave);
    }

    public int back(int rider) {
        if (!heat.hasRider(rider)) {
            return NUMBER;
        }
        if (heat.line.holds(rider)) {
            return STATE;
        }
        heat.line.join(rider);
        return heat.line.size;
    }

    public int letGo() {
        return heat.wave.end() ? 1 : 0;
    }

    public int mark(int ride, int judge, int v) {
        if (!heat.hasRide(ride) || judge < 0 || judge >= JUDGES || v < NO_MARK || v > BEST_MARK) {
            return WRONG;
        }
        return heat.setMark(ride, judge, v);
    }

    public int of(int ride, int what) {
        if (!heat.hasRide(ride)) {
            return NUMBER;
        }
        switch (what) {
            case 0:
                return heat.riderOf[ride];
            case 1:
                return heat.waveOf[ride];
            case 2:
                return heat.marksOf[ride];
            case 3:
                return heat.scoreOf[ride];
            default:
                return NUMBER;
        }
    }

    public int line(int i) {
        if (i < 0 || i >= heat.line.size) {
            return NONE;
        }
        return heat.line.row[i];
    }

    public int told(int rider, int what) {
        if (!heat.hasRider(rider)) {
            return NUMBER;
        }
        heat.tally();
        switch (what) {
            case 0:
                return heat.ridesBy(rider);
            case 1:
                return heat.board.best[rider];
            case 2:
                return heat.board.second[rider];
            case 3:
                return heat.board.faults[rider];
            case 4:
                return heat.board.total(rider);
            case 5:
                return heat.board.placeOf(rider);
            default:
                return NUMBER;
        }
    }

    public int need(int rider, int k) {
        if (!heat.hasRider(rider) || k < 0 || k >= MOST_RIDERS) {
            return NUMBER;
        }
        return heat.leastScoreFor(rider, k);
    }

    // ---- past and luck

    public int past(int score) {
        if (score < 0 || score > BEST_SCORE) {
            return NUMBER;
        }
        if (past.size >= MOST_PAST) {
            return FULL;
        }
        past.add(score);
        return past.size;
    }

    public int keep() {
        int coming = heat.markedRides();
        if (past.size + coming > MOST_PAST) {
            return FULL;
        }
        for (int ride = 0; ride < heat.rides; ride++) {
            if (heat.marksOf[ride] > 0) {
                past.add(heat.scoreOf[ride]);
            }
        }
        return coming;
    }

    public int forget() {
        int before = past.size;
        past.size = 0;
        return before;
    }

    public int chance(int rider, int k, int what) {
        if (!isAboveOrBelow(what)) {
            return NUMBER;
        }
        int score = need(rider, k);
        if (score < 0) {
            return score;
        }
        return (int) cleared(past.notBelow(score), past.size, what);
    }

    public int ways() {
        if (heat.rides > MOST_DEALT) {
            return LARGE;
        }
        return heat.countWays();
    }

    public int luck(int rider) {
        if (!heat.hasRider(rider)) {
            return NUMBER;
        }
        if (heat.rides > MOST_DEALT) {
            return LARGE;
        }
        return heat.countLuck(rider);
    }

    // ---- days

    public int days(int d) {
        if (d < 1 || d > MOST_DAYS) {
            return NUMBER;
        }
        wait.begin(d);
        return d;
    }

    public int span(int day, int a, int b) {
        if (!wait.hasDay(day) || !isQuality(a) || !isQuality(b) || a > b) {
            return NUMBER;
        }
        wait.setSpan(day, a, b);
        return 1;
    }

    public int was(int day, int q) {
        if (!wait.hasDay(day) || (q != UNKNOWN && !wait.isInSpan(day, q))) {
            return WRONG;
        }
        int before = wait.known[day];
        wait.known[day] = q;
        return before;
    }

    public long worth(int day, int r, int what) {
        if (day < 0 || day > wait.days || r < 0 || r > MOST_DAYS || !isAboveOrBelow(what)) {
            return WRONG;
        }
        if (!wait.hasWorth(day, r)) {
            return NONE;
        }
        return cleared(wait.above[day][r], wait.below[day], what);
    }

    public int call(int day, int r, int q) {
        if (!wait.hasDay(day) || r < 0 || r > MOST_DAYS || !isQuality(q)) {
            return NUMBER;
        }
        if (!wait.hasWorth(day, r)) {
            return NONE;
        }
        return wait.isCalled(day, r, q) ? 1 : 0;
    }

    public int run(int r, int what) {
        if (r < 0 || r > wait.days) {
            return NUMBER;
        }
        switch (what) {
            case 0:
                return wait.calledInRun(r);
            case 1:
                return wait.sumOf(wait.calledInRun(r));
            case 2:
                return wait.lengthOfRun();
            default:
                return NUMBER;
        }
    }

    public int behind(int r) {
        if (r < 0 || r > wait.days) {
            return NUMBER;
        }
        if (wait.countKnown() < wait.days) {
            return NONE;
        }
        return wait.greatestSum(r);
    }

    public int many(int what) {
        switch (what) {
            case 0:
                return heat.riders;
            case 1:
                return heat.rides;
            case 2:
                return heat.line.size;
            case 3:
                return past.size;
            case 4:
                return wait.days;
            case 5:
                return wait.countKnown();
            case 6:
                return heat.board.allFaults();
            default:
                return NUMBER;
        }
    }

    private static boolean isAboveOrBelow(int what) {
        return what == 0 || what == 1;
    }

    private static boolean isQuality(int q) {
        return q >= 0 && q <= BEST_DAY;
    }

    /** The part above (what = 0) or below the line of a cleared fraction; 0 / 1 if it is 0 or has no parts. */
    private static long cleared(long above, long below, int what) {
        if (above <= 0 || below <= 0) {
            return what;
        }
        long divisor = commonDivisor(above, below);
        long part = what == 0 ? above : below;
        return divisor > 1 ? part / divisor : part;
    }

    private static long commonDivisor(long a, long b) {
        long greater = a;
        long lesser = b;
        // Two steps at least halve the greater one, so 200 are more than any two longs need.
        for (int step = 0; step < 200 && lesser > 0; step++) {
            long rest = greater % lesser;
            greater = lesser;
            lesser = rest;
        }
        return greater;
    }

    /** The riders who wait outside, the one who may go first in front. */
    private static final class Line {
        final int[] row = new int[MOST_RIDERS];
        int size;

        void fillByNumbers(int riders) {
            size = 0;
            for (int rider = 0; rider < riders; rider++) {
                join(rider);
            }
        }

        void join(int rider) {
            if (size < MOST_RIDERS) {
                row[size] = rider;
                size++;
            }
        }

        void leave(int rider) {
            int kept = 0;
            for (int i = 0; i < size; i++) {
                if (row[i] != rider) {
                    row[kept] = row[i];
                    kept++;
                }
            }
            size = kept;
        }

        boolean holds(int rider) {
            return positionOf(rider) < size;
        }

        /** Where a rider stands; the line's size if it isn't there. */
        int positionOf(int rider) {
            for (int i = 0; i < size; i++) {
                if (row[i] == rider) {
                    return i;
                }
            }
            return size;
        }
    }

    /** The wave that the latest ride was on, until it is let go. */
    private static final class Wave {
        int number = NO_WAVE;
        /** The riders' turns, by THE LINE as it was when the first of them took the wave. */
        final int[] turn = new int[MOST_RIDERS];
        final boolean[] onIt = new boolean[MOST_RIDERS];
        final boolean[] blamed = new boolean[MOST_RIDERS];

        void start(int wave, Line line) {
            number = wave;
            for (int rider = 0; rider < MOST_RIDERS; rider++) {
                // Who isn't in the line gets a turn behind all of it, the lesser number first.
                turn[rider] = line.holds(rider) ? line.positionOf(rider) : MOST_RIDERS + rider;
                onIt[rider] = false;
                blamed[rider] = false;
            }
        }

        /** Whether there was one to let go. */
        boolean end() {
            boolean was = number != NO_WAVE;
            number = NO_WAVE;
            return was;
        }

        /** A rider joins those on the wave; the faults of all but the one with the right are counted. */
        void ride(int rider, int[] faults) {
            onIt[rider] = true;
            int first = rider;
            for (int other = 0; other < MOST_RIDERS; other++) {
                if (onIt[other] && turn[other] < turn[first]) {
                    first = other;
                }
            }
            for (int other = 0; other < MOST_RIDERS; other++) {
                if (onIt[other] && other != first && !blamed[other]) {
                    blamed[other] = true;
                    faults[other]++;
                }
            }
        }
    }

    /** The two best scores and the faults of each rider, and who is better by them. */
    private static final class Board {
        int riders;
        final int[] best = new int[MOST_RIDERS];
        final int[] second = new int[MOST_RIDERS];
        final int[] faults = new int[MOST_RIDERS];

        void begin(int n) {
            riders = n;
            for (int rider = 0; rider < MOST_RIDERS; rider++) {
                faults[rider] = 0;
            }
        }

        void clearScores() {
            for (int rider = 0; rider < MOST_RIDERS; rider++) {
                setScores(rider, 0, 0);
            }
        }

        void setScores(int rider, int bestScore, int secondScore) {
            best[rider] = bestScore;
            second[rider] = secondScore;
        }

        void addScore(int rider, int score) {
            if (score > best[rider]) {
                setScores(rider, score, best[rider]);
            } else if (score > second[rider]) {
                second[rider] = score;
            }
        }

        int total(int rider) {
            if (faults[rider] == 0) {
                return best[rider] + second[rider];
            }
            if (faults[rider] == 1) {
                return best[rider] + second[rider] / 2;
            }
            return best[rider] / 2;
        }

        int placeOf(int rider) {
            int place = 0;
            for (int other = 0; other < riders; other++) {
                if (isBetter(other, rider)) {
                    place++;
                }
            }
            return place;
        }

        int allFaults() {
            int sum = 0;
            for (int rider = 0; rider < riders; rider++) {
                sum += faults[rider];
            }
            return sum;
        }

        private boolean isBetter(int one, int other) {
            int ones = total(one);
            int others = total(other);
            if (ones != others) {
                return ones > others;
            }
            if (best[one] != best[other]) {
                return best[one] > best[other];
            }
            return one < other;
        }
    }

    /** One heat: its riders, its rides with their marks, and what they come to. */
    private static final class Heat {
        int riders;
        int rides;
        final int[] riderOf = new int[MOST_RIDES];
        final int[] waveOf = new int[MOST_RIDES];
        final int[] marks = new int[MOST_RIDES * JUDGES];
        final int[] marksOf = new int[MOST_RIDES];
        final int[] scoreOf = new int[MOST_RIDES];
        /** How many rides each rider is still to be given while they are dealt anew. */
        final int[] toGive = new int[MOST_RIDERS];
        final Line line = new Line();
        final Wave wave = new Wave();
        final Board board = new Board();

        Heat() {
            begin(LEAST_RIDERS);
        }

        void begin(int n) {
            riders = n;
            rides = 0;
            line.fillByNumbers(n);
            wave.end();
            board.begin(n);
        }

        boolean hasRider(int rider) {
            return rider >= 0 && rider < riders;
        }

        boolean hasRide(int ride) {
            return ride >= 0 && ride < rides;
        }

        int addRide(int rider, int number) {
            int ride = rides;
            rides++;
            riderOf[ride] = rider;
            waveOf[ride] = number;
            for (int judge = 0; judge < JUDGES; judge++) {
                marks[ride * JUDGES + judge] = NO_MARK;
            }
            score(ride);
            if (wave.number != number) {
                wave.start(number, line);
            }
            wave.ride(rider, board.faults);
            line.leave(rider);
            return ride;
        }

        int setMark(int ride, int judge, int mark) {
            int at = ride * JUDGES + judge;
            int before = marks[at];
            marks[at] = mark;
            score(ride);
            return before;
        }

        private void score(int ride) {
            int count = 0;
            int sum = 0;
            int least = BEST_MARK;
            int greatest = 0;
            for (int judge = 0; judge < JUDGES; judge++) {
                int mark = marks[ride * JUDGES + judge];
                if (mark != NO_MARK) {
                    count++;
                    sum += mark;
                    least = Math.min(least, mark);
                    greatest = Math.max(greatest, mark);
                }
            }
            marksOf[ride] = count;
            if (count >= 4) {
                sum -= least + greatest;
                count -= 2;
            }
            scoreOf[ride] = count > 0 ? MARKS_PER_SCORE * sum / count : 0;
        }

        int markedRides() {
            int count = 0;
            for (int ride = 0; ride < rides; ride++) {
                if (marksOf[ride] > 0) {
                    count++;
                }
            }
            return count;
        }

        int ridesBy(int rider) {
            int count = 0;
            for (int ride = 0; ride < rides; ride++) {
                if (riderOf[ride] == rider) {
                    count++;
                }
            }
            return count;
        }

        /** The board's scores serve other reckonings too, so each reader of them has them made anew. */
        void tally() {
            board.clearScores();
            for (int ride = 0; ride < rides; ride++) {
                board.addScore(riderOf[ride], scoreOf[ride]);
            }
        }

        int leastScoreFor(int rider, int place) {
            tally();
            int best = board.best[rider];
            int second = board.second[rider];
            for (int score = 0; score <= BEST_SCORE; score++) {
                board.addScore(rider, score);
                if (board.placeOf(rider) <= place) {
                    return score;
                }
                board.setScores(rider, best, second);
            }
            return NONE;
        }

        int countWays() {
            int ways = 1;
            int given = 0;
            for (int rider = 0; rider < riders; rider++) {
                int own = ridesBy(rider);
                for (int i = 1; i <= own; i++) {
                    given++;
                    // Never a rest: this walks along the choices of i out of so many as are given.
                    ways = ways * given / i;
                }
            }
            return ways;
        }

        int countLuck(int rider) {
            board.clearScores();
            for (int other = 0; other < riders; other++) {
                toGive[other] = ridesBy(other);
            }
            return winsFrom(0, rider);
        }

        /** In how many ways to give the rides from this one on the rider comes first. */
        private int winsFrom(int ride, int rider) {
            if (ride >= rides || ride >= MOST_DEALT) {
                return board.placeOf(rider) == 0 ? 1 : 0;
            }
            int wins = 0;
            for (int taker = 0; taker < riders; taker++) {
                if (toGive[taker] > 0) {
                    int best = board.best[taker];
                    int second = board.second[taker];
                    toGive[taker]--;
                    board.addScore(taker, scoreOf[ride]);
                    wins += winsFrom(ride + 1, rider);
                    board.setScores(taker, best, second);
                    toGive[taker]++;
                }
            }
            return wins;
        }
    }

    /** Scores of earlier waves. */
    private static final class Past {
        final int[] scores = new int[MOST_PAST];
        int size;

        void add(int score) {
            if (size < MOST_PAST) {
                scores[size] = score;
                size++;
            }
        }

        int notBelow(int score) {
            int count = 0;
            for (int i = 0; i < size; i++) {
                if (scores[i] >= score) {
                    count++;
                }
            }
            return count;
        }
    }

    /** The days of which some are to be called, their spans, and what waiting is worth on each. */
    private static final class Wait {
        int days;
        final int[] from = new int[MOST_DAYS];
        final int[] to = new int[MOST_DAYS];
        final int[] known = new int[MOST_DAYS];
        /** WORTH of day i with r left is above[i][r] / below[i], not yet cleared. */
        final long[][] above = new long[MOST_DAYS + 1][MOST_DAYS + 1];
        /** The product of the spans' widths from a day on: 10 to the 9th at most, so a long holds every sum. */
        final long[] below = new long[MOST_DAYS + 1];

        Wait() {
            begin(FIRST_DAYS);
        }

        void begin(int d) {
            days = d;
            for (int day = 0; day < d; day++) {
                from[day] = 0;
                to[day] = BEST_DAY;
                known[day] = UNKNOWN;
            }
            above[d][0] = 0;
            below[d] = 1;
            weighDownFrom(d - 1);
        }

        boolean hasDay(int day) {
            return day >= 0 && day < days;
        }

        boolean isInSpan(int day, int q) {
            return q >= from[day] && q <= to[day];
        }

        boolean hasWorth(int day, int left) {
            return left <= days - day;
        }

        void setSpan(int day, int a, int b) {
            from[day] = a;
            to[day] = b;
            known[day] = UNKNOWN;
            weighDownFrom(day);
        }

        /** A day's worth rests on the later days alone, so a change reaches it and the ones ahead of it. */
        private void weighDownFrom(int last) {
            for (int day = last; day >= 0; day--) {
                below[day] = (to[day] - from[day] + 1) * below[day + 1];
                for (int left = 0; left <= days - day; left++) {
                    above[day][left] = sumOverSpan(day, left);
                }
            }
        }

        private long sumOverSpan(int day, int left) {
            long sum = 0;
            for (int q = from[day]; q <= to[day]; q++) {
                sum += isCalled(day, left, q) ? aboveIfCalled(day, left, q) : above[day + 1][left];
            }
            return sum;
        }

        boolean isCalled(int day, int left, int q) {
            if (left <= 0) {
                return false;
            }
            return !hasWorth(day + 1, left) || aboveIfCalled(day, left, q) >= above[day + 1][left];
        }

        /** What calling a day for q brings with the days behind it, over below[day + 1]. */
        private long aboveIfCalled(int day, int left, int q) {
            return q * below[day + 1] + above[day + 1][left - 1];
        }

        int countKnown() {
            int count = 0;
            for (int day = 0; day < days; day++) {
                if (known[day] != UNKNOWN) {
                    count++;
                }
            }
            return count;
        }

        int lengthOfRun() {
            for (int day = 0; day < days; day++) {
                if (known[day] == UNKNOWN) {
                    return day;
                }
            }
            return days;
        }

        /** The called days of THE RUN, as bits. */
        int calledInRun(int r) {
            int called = 0;
            int left = r;
            int length = lengthOfRun();
            for (int day = 0; day < length; day++) {
                if (isCalled(day, left, known[day])) {
                    called |= 1 << day;
                    left--;
                }
            }
            return called;
        }

        int sumOf(int called) {
            int sum = 0;
            for (int day = 0; day < days; day++) {
                if ((called >> day & 1) == 1) {
                    sum += known[day];
                }
            }
            return sum;
        }

        int greatestSum(int r) {
            int sum = 0;
            int left = r;
            for (int q = BEST_DAY; q >= 0; q--) {
                for (int day = 0; day < days; day++) {
                    if (known[day] == q && left > 0) {
                        sum += q;
                        left--;
                    }
                }
            }
            return sum;
        }
    }
}
