/** Promises 17 to 23: the wait and its days. Their refusals are looked at by DaysEdgesTest. */
public final class DaysTest {
    private static final Check CHECK = new Check("DaysTest");

    private static void due(String call, long got, long want) {
        CHECK.due(call, got, want);
    }

    public static void main(String[] args) {
        promise17Days();
        promise18Span();
        promise19Was();
        promise20Worth();
        promise20WorthIsOfSpansAlone();
        promise20WorthOfNine();
        promise20DaysThatAreGone();
        promise21Call();
        promise22Run();
        promise22RunCallsWhatItMust();
        promise23Behind();
        promise23BehindOfUnknownDays();
        CHECK.end();
    }

    private static void worth(Bench x, int day, int r, long above, long below) {
        due("worth(" + day + ", " + r + ", 0)", x.worth(day, r, 0), above);
        due("worth(" + day + ", " + r + ", 1)", x.worth(day, r, 1), below);
    }

    private static void promise17Days() {
        Bench x = new Bench();
        x.past(7);
        x.take(0, 1);
        for (int d = 1; d <= 9; d++) {
            due("17: days", x.days(d), d);
            due("17: many", x.many(4), d);
            due("17: known", x.many(5), 0);
            worth(x, d - 1, 1, 9, 2);
            due("17: unknown", x.was(d - 1, 9), -1);
            due("17: unknown", x.was(0, 0), d == 1 ? 9 : -1);
            x.span(0, 3, 4);
            due("17: no day d", x.was(d, 0), -9);
        }
        x.days(2);
        due("17: spans as at first", x.was(0, 9), -1);
        worth(x, 0, 2, 9, 1);
        due("17: past stays", x.many(3), 1);
        due("17: rides stay", x.many(1), 1);
    }

    private static void promise18Span() {
        Bench x = new Bench();
        due("18: span", x.span(4, 0, 9), 1);
        x.was(2, 5);
        due("18: span", x.span(2, 5, 5), 1);
        due("18: unknown then", x.many(5), 0);
        due("18: only 5", x.was(2, 4), -9);
        due("18: only 5", x.was(2, 6), -9);
        due("18: only 5", x.was(2, 5), -1);
        due("18: the same span", x.span(2, 5, 5), 1);
        due("18: unknown then", x.was(2, 5), -1);
        x.was(1, 9);
        due("18: span", x.span(2, 0, 0), 1);
        due("18: other days stay", x.was(1, 9), 9);
    }

    private static void promise19Was() {
        Bench x = new Bench();
        x.span(1, 3, 6);
        due("19: first", x.was(1, 3), -1);
        due("19: then", x.was(1, 6), 3);
        due("19: unknown again", x.was(1, -1), 6);
        due("19: unknown still", x.was(1, -1), -1);
        due("19: 0 is known", x.was(0, 0), -1);
        due("19: many", x.many(5), 1);
    }

    private static void promise20Worth() {
        Bench x = new Bench();
        worth(x, 5, 0, 0, 1);
        worth(x, 0, 0, 0, 1);
        worth(x, 4, 1, 9, 2);
        // 9/2 is waited for by 0 to 4, five numbers; 5 to 9 sum up to 35: (22.5 + 35) / 10.
        worth(x, 3, 1, 23, 4);
        worth(x, 3, 2, 9, 1);
        x.days(2);
        x.span(0, 4, 5);
        x.span(1, 0, 9);
        // 4 is let by, for 4.5.
        worth(x, 0, 1, 19, 4);
        worth(x, 0, 2, 9, 1);
        x.span(1, 0, 0);
        x.span(0, 0, 0);
        worth(x, 0, 1, 0, 1);
        worth(x, 0, 2, 0, 1);
        x.span(0, 1, 2);
        worth(x, 0, 1, 3, 2);
        x.span(0, 0, 1);
        x.span(1, 9, 9);
        worth(x, 0, 1, 9, 1);
        worth(x, 0, 2, 19, 2);
        x.days(3);
        x.span(1, 0, 2);
        x.span(2, 0, 6);
        // Day 1 with one left: all of 0, 1, 2 wait for 3. Day 0: 0 to 2 wait, 3 to 9 are called.
        worth(x, 1, 1, 3, 1);
        worth(x, 0, 1, 51, 10);
        // Day 0 with two left: called if q + 3 is not below 1 + 3.
        worth(x, 0, 2, 38, 5);
    }

    private static void promise20WorthIsOfSpansAlone() {
        Bench x = new Bench();
        long above = x.worth(0, 2, 0);
        long below = x.worth(0, 2, 1);
        for (int day = 0; day < 5; day++) {
            x.was(day, 9);
        }
        worth(x, 0, 2, above, below);
        worth(x, 4, 1, 9, 2);
        x.span(4, 7, 7);
        worth(x, 4, 1, 7, 1);
        // A later span changes the days ahead of it: 0 to 6 wait for 7.
        worth(x, 3, 1, 73, 10);
    }

    private static void promise20WorthOfNine() {
        Bench x = new Bench();
        x.days(9);
        worth(x, 0, 9, 81, 2);
        worth(x, 9, 0, 0, 1);
        worth(x, 0, 1, 1247517L, 156250L);
        worth(x, 0, 2, 75225711L, 5000000L);
        worth(x, 0, 4, 6642453L, 250000L);
        worth(x, 0, 8, 3084696L, 78125L);
        due("20: none behind all", x.worth(9, 1, 0), -4);
    }

    private static void promise20DaysThatAreGone() {
        Bench x = new Bench();
        x.days(9);
        x.days(2);
        due("20: days that are gone", x.worth(0, 3, 0), -4);
        due("20: days that are gone", x.worth(3, 0, 0), -9);
    }

    private static void promise21Call() {
        Bench x = new Bench();
        due("21: below 4.5", x.call(3, 1, 4), 0);
        due("21: above 4.5", x.call(3, 1, 5), 1);
        due("21: below 5.75", x.call(2, 1, 5), 0);
        due("21: above 5.75", x.call(2, 1, 6), 1);
        due("21: must be", x.call(3, 2, 0), 1);
        due("21: must be", x.call(0, 5, 0), 1);
        due("21: none left", x.call(0, 0, 9), 0);
        // Day 2 with two left: q + 5.75 against 9 of both days 3 and 4.
        due("21: two left, below", x.call(2, 2, 3), 0);
        due("21: two left, above", x.call(2, 2, 4), 1);
        x.span(4, 6, 6);
        due("21: just as good is called", x.call(3, 1, 6), 1);
        due("21: below", x.call(3, 1, 5), 0);
        x.span(3, 2, 3);
        due("21: q needn't be of the span", x.call(3, 1, 9), 1);
        due("21: q needn't be of the span", x.call(3, 1, 0), 0);
        x.was(4, 6);
        x.was(3, 2);
        due("21: what days were is no matter", x.call(3, 1, 6), 1);
    }

    private static void run(Bench x, int r, int bits, int sum, int length) {
        due("run(" + r + ", 0)", x.run(r, 0), bits);
        due("run(" + r + ", 1)", x.run(r, 1), sum);
        due("run(" + r + ", 2)", x.run(r, 2), length);
    }

    private static void promise22Run() {
        Bench x = new Bench();
        run(x, 3, 0, 0, 0);
        x.was(1, 9);
        run(x, 1, 0, 0, 0);
        x.was(0, 2);
        run(x, 1, 2, 9, 2);
        run(x, 0, 0, 0, 2);
        run(x, 5, 3, 11, 2);
        x.was(3, 9);
        run(x, 2, 2, 9, 2);
        x.was(2, 0);
        run(x, 2, 10, 18, 4);
        run(x, 1, 2, 9, 4);
        x.was(4, 3);
        run(x, 1, 2, 9, 5);
        run(x, 5, 31, 23, 5);
        x.was(0, -1);
        run(x, 5, 0, 0, 0);
    }

    private static void promise22RunCallsWhatItMust() {
        Bench x = Setup.waitOf(0, 0, 0, 0, 0);
        run(x, 2, 24, 0, 5);
        run(x, 1, 16, 0, 5);
        x = Setup.waitOf(7, 1, 1);
        run(x, 1, 1, 7, 3);
        run(x, 2, 5, 8, 3);
        x = Setup.waitOf(1, 2, 3, 4, 5, 6, 7, 8, 9);
        run(x, 9, 511, 45, 9);
        run(x, 0, 0, 0, 9);
    }

    private static void promise23Behind() {
        Bench x = Setup.waitOf(3, 8, 0, 8, 5);
        int[] due = {0, 8, 16, 21, 24, 24};
        for (int r = 0; r <= 5; r++) {
            due("23: behind(" + r + ")", x.behind(r), due[r]);
        }
        x = Setup.waitOf(9);
        due("23: behind(1)", x.behind(1), 9);
        x = Setup.waitOf(9, 9, 9, 9, 9, 9, 9, 9, 9);
        due("23: behind(9)", x.behind(9), 81);
    }

    private static void promise23BehindOfUnknownDays() {
        Bench x = Setup.waitOf(3, 8, 0, 8, 5);
        x.was(4, -1);
        due("23: NONE", x.behind(2), -4);
        due("23: NONE for 0 too", x.behind(0), -4);
        due("23: NUMBER ahead of NONE", x.behind(6), -1);
    }
}
