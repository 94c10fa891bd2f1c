import java.util.List;
import java.util.function.Function;

/**
 * All that can be seen of an object, part by part. Some looks change the object, and all of them
 * together are more than 512 calls, so each part is for an object of its own.
 */
final class Views {
    /** With so many, no part is more than 220 calls. */
    private static final int RIDES_AT_ONCE = 15;
    private static final int SCORES_AT_ONCE = 43;

    static final List<Function<Bench, String>> ALL = List.of(
            Views::counts, Views::riders, Views::chances,
            x -> rides(x, 0), x -> rides(x, RIDES_AT_ONCE),
            Views::luck, Views::letGo, x -> onTheWave(x, 0, 1), x -> onTheWave(x, 3, -1),
            x -> past(x, 0), x -> past(x, 1), x -> past(x, 2), x -> past(x, 3),
            x -> past(x, 4), x -> past(x, 5), x -> past(x, 6),
            Views::worths, Views::days, Views::runs);

    private Views() {
    }

    private static String counts(Bench x) {
        StringBuilder s = new StringBuilder("many");
        for (int what = 0; what <= 6; what++) {
            s.append(' ').append(x.many(what));
        }
        s.append(" line");
        for (int i = 0; i < 4; i++) {
            s.append(' ').append(x.line(i));
        }
        return s.toString();
    }

    private static String riders(Bench x) {
        StringBuilder s = new StringBuilder("told, need");
        for (int rider = 0; rider < 4; rider++) {
            s.append("; rider ").append(rider);
            for (int what = 0; what <= 5; what++) {
                s.append(' ').append(x.told(rider, what));
            }
            for (int k = 0; k <= 3; k++) {
                s.append(' ').append(x.need(rider, k));
            }
        }
        return s.toString();
    }

    private static String chances(Bench x) {
        StringBuilder s = new StringBuilder("chances");
        for (int rider = 0; rider < 4; rider++) {
            for (int k = 0; k <= 3; k++) {
                s.append(' ').append(x.chance(rider, k, 0)).append('/').append(x.chance(rider, k, 1));
            }
        }
        return s.toString();
    }

    private static String rides(Bench x, int first) {
        StringBuilder s = new StringBuilder("rides from ").append(first);
        for (int ride = first; ride < first + RIDES_AT_ONCE; ride++) {
            s.append(';');
            for (int what = 0; what <= 3; what++) {
                s.append(' ').append(x.of(ride, what));
            }
            for (int judge = 0; judge < 5; judge++) {
                s.append(' ').append(x.mark(ride, judge, -1));
            }
        }
        return s.toString();
    }

    private static String luck(Bench x) {
        StringBuilder s = new StringBuilder("ways ").append(x.ways()).append(" luck");
        for (int rider = 0; rider < 4; rider++) {
            s.append(' ').append(x.luck(rider));
        }
        return s.toString();
    }

    private static String letGo(Bench x) {
        return "letGo " + x.letGo();
    }

    /** Who interferes as one rider after another comes to the wave of the latest ride. */
    private static String onTheWave(Bench x, int first, int step) {
        StringBuilder s = new StringBuilder("on the wave, from rider ").append(first);
        int wave = Math.max(0, x.of(x.many(1) - 1, 1));
        for (int i = 0, rider = first; i < 4; i++, rider += step) {
            s.append("; ").append(x.back(rider)).append(' ').append(x.take(rider, wave)).append(" faults");
            for (int other = 0; other < 4; other++) {
                s.append(' ').append(x.told(other, 3));
            }
        }
        return s.toString();
    }

    /** The scores of PAST, by the chance of each need. */
    private static String past(Bench x, int part) {
        int first = part * SCORES_AT_ONCE;
        StringBuilder s = new StringBuilder("past from ").append(first);
        x.heat(2);
        x.take(1, 0);
        for (int score = first; score < first + SCORES_AT_ONCE; score++) {
            Setup.score(x, 0, score);
            s.append(' ').append(x.chance(0, 0, 0)).append('/').append(x.chance(0, 0, 1));
        }
        return s.toString();
    }

    private static String worths(Bench x) {
        StringBuilder s = new StringBuilder("worths");
        for (int day = 0; day <= 9; day++) {
            for (int r = 0; r <= 9; r++) {
                s.append(' ').append(x.worth(day, r, 0)).append('/').append(x.worth(day, r, 1));
            }
        }
        return s.toString();
    }

    /** What each day was, and which numbers its span takes. */
    private static String days(Bench x) {
        StringBuilder s = new StringBuilder("days");
        for (int day = 0; day < 9; day++) {
            s.append("; was ").append(x.was(day, -1)).append(" span");
            for (int q = 0; q <= 9; q++) {
                s.append(x.was(day, q) == -9 ? '-' : '+');
            }
        }
        return s.toString();
    }

    private static String runs(Bench x) {
        StringBuilder s = new StringBuilder("runs");
        for (int r = 0; r <= 9; r++) {
            s.append("; ").append(x.behind(r));
            for (int what = 0; what <= 2; what++) {
                s.append(' ').append(x.run(r, what));
            }
        }
        return s.toString();
    }
}
