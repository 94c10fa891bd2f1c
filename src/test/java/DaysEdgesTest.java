import java.util.Arrays;

/** Term 3 and promises 17 to 23: one day and nine, spans of one number and of ten, none and all known. */
public final class DaysEdgesTest {
    private static final int MAX = Integer.MAX_VALUE;
    private static final int MIN = Integer.MIN_VALUE;

    public static void main(String[] args) throws Exception {
        Edges.run(DaysEdgesTest.class);
    }

    private static Bench waitOfDays(int d) {
        Bench x = new Bench();
        x.days(d);
        return x;
    }

    private static void worth(Check c, String when, Bench x, int day, int r, long above, long below) {
        c.due(when + ": worth(" + day + ", " + r + ", 0)", x.worth(day, r, 0), above);
        c.due(when + ": worth(" + day + ", " + r + ", 1)", x.worth(day, r, 1), below);
    }

    /** WORTH is so many halves. */
    private static void halves(Check c, String when, Bench x, int day, int r, int halves) {
        boolean whole = halves % 2 == 0;
        worth(c, when, x, day, r, whole ? halves / 2 : halves, whole ? 1 : 2);
    }

    private static void run(Check c, String when, Bench x, int r, int bits, int sum, int length) {
        c.due(when + ": run(" + r + ", 0)", x.run(r, 0), bits);
        c.due(when + ": run(" + r + ", 1)", x.run(r, 1), sum);
        c.due(when + ": run(" + r + ", 2)", x.run(r, 2), length);
    }

    // ---- term 3

    @Edge(in = "Terms", says = "THE WAIT has DAYS 0 to d - 1 (d 1 to 9; 5 at first),")
    static void daysOfTheWait(Check c) {
        c.due("at first", new Bench().many(4), 5);
        c.due("day 4 at first", new Bench().was(4, 0), -1);
        c.refused("day 5 at first", Setup::fresh, x -> x.was(5, 0), -9);
        for (int d = 1; d <= 9; d++) {
            int days = d;
            c.due("days(d)", new Bench().days(d), d);
            c.due("many(4)", waitOfDays(d).many(4), d);
            c.due("day 0", waitOfDays(d).was(0, 0), -1);
            c.due("day d - 1", waitOfDays(d).was(d - 1, 9), -1);
            c.refused("day d", () -> waitOfDays(days), x -> x.was(days, 0), -9);
            c.refused("day -1", () -> waitOfDays(days), x -> x.was(-1, 0), -9);
        }
        c.refused("no day", Setup::busy, x -> x.days(0), -1);
        c.refused("ten days", Setup::busy, x -> x.days(10), -1);
    }

    @Edge(in = "Terms", says = "each with a SPAN of how good its waves are, from a to b (0 to 9; 0 to 9 at first),")
    static void spansOfDays(Check c) {
        for (int day = 0; day < 5; day++) {
            c.due("0 at first", new Bench().was(day, 0), -1);
            c.due("9 at first", new Bench().was(day, 9), -1);
            c.due("10 is none at first", new Bench().was(day, 10), -9);
            halves(c, "at first", new Bench(), day, 5 - day, 9 * (5 - day));
        }
        for (int a = 0; a <= 9; a++) {
            for (int b = a; b <= 9; b++) {
                Bench x = new Bench();
                c.due("span(4, " + a + ", " + b + ")", x.span(4, a, b), 1);
                for (int q = 0; q <= 9; q++) {
                    x.was(4, -1);
                    c.due(q + " of " + a + " to " + b, x.was(4, q), q < a || q > b ? -9 : -1);
                }
                halves(c, "its mean", x, 4, 1, a + b);
            }
        }
        c.refused("a is -1", Setup::busy, x -> x.span(0, -1, 9), -1);
        c.refused("b is 10", Setup::busy, x -> x.span(0, 0, 10), -1);
    }

    @Edge(in = "Terms", says = "and what it was (a number of the SPAN, or UNKNOWN; at first).")
    static void whatDaysWere(Check c) {
        Bench x = new Bench();
        c.due("none known at first", x.many(5), 0);
        for (int day = 0; day < 5; day++) {
            c.due("unknown at first", x.was(day, -1), -1);
        }
        x.span(2, 3, 5);
        c.due("the least of the span", x.was(2, 3), -1);
        c.due("the greatest of the span", x.was(2, 5), 3);
        c.due("one below it", x.was(2, 2), -9);
        c.due("one above it", x.was(2, 6), -9);
        c.due("unknown again", x.was(2, -1), 5);
        c.due("none known", x.many(5), 0);
    }

    @Edge(in = "Terms", says = "Of these DAYS r (0 to d) are to be CALLED.")
    static void howManyAreCalled(Check c) {
        for (int d = 1; d <= 9; d++) {
            int days = d;
            int[] was = new int[d];
            Arrays.fill(was, 1);
            for (int r = 0; r <= d; r++) {
                c.due("r are called", Integer.bitCount(Setup.waitOf(was).run(r, 0)), r);
                c.due("behind", Setup.waitOf(was).behind(r), r);
            }
            c.refused("d + 1 of them", () -> waitOfDays(days), x -> x.run(days + 1, 0), -1);
            c.refused("-1 of them", () -> waitOfDays(days), x -> x.run(-1, 0), -1);
        }
    }

    @Edge(in = "Terms", says = "As a DAY comes its number is told, each of its SPAN being as likely as another; then it is CALLED or not.")
    static void numbersAreLikely(Check c) {
        Bench x = waitOfDays(2);
        // 0 to 4 wait for 9/2, 5 to 9 are taken: (45/2 + 35) / 10.
        worth(c, "told ahead of the call", x, 0, 1, 23, 4);
        x.span(0, 4, 5);
        worth(c, "two numbers: 9/2 or 5", x, 0, 1, 19, 4);
        x.span(0, 5, 5);
        worth(c, "one number", x, 0, 1, 5, 1);
        x.span(0, 4, 4);
        worth(c, "one number that waits", x, 0, 1, 9, 2);
        x.was(0, 4);
        x.was(1, 9);
        worth(c, "what a day was doesn't matter", x, 0, 1, 9, 2);
        worth(c, "what a day was doesn't matter", x, 1, 1, 9, 2);
    }

    @Edge(in = "Terms", says = "WORTH of a DAY i with r left: the greatest mean of the sum of numbers of CALLED DAYS, if just r of the DAYS from i on are CALLED;")
    static void worthIsTheGreatestMean(Check c) {
        Bench sure = Setup.sureDays(3, 9, 0, 9, 5);
        int[][] due = {{0, 9, 18, 23, 26, 26}, {0, 9, 18, 23, 23}, {0, 9, 14, 14}, {0, 9, 14}, {0, 5}, {0}};
        for (int day = 0; day <= 5; day++) {
            for (int r = 0; r <= 5 - day; r++) {
                worth(c, "sure days", sure, day, r, due[day][r], 1);
            }
        }
        worth(c, "all of nine", waitOfDays(9), 0, 9, 81, 2);
        worth(c, "just r, also if they are bad", Setup.sureDays(0, 0, 7), 0, 3, 7, 1);
        Bench late = waitOfDays(3);
        late.span(1, 0, 2);
        late.span(2, 0, 6);
        // Day 1 always waits for the 3 of day 2; so do 0 to 2 of day 0, and 3 to 9 are taken.
        worth(c, "a later day", late, 1, 1, 3, 1);
        worth(c, "a later day", late, 0, 1, 51, 10);
        // With two left day 0 is taken from 1 on: q + 3 against 1 + 3.
        worth(c, "two left", late, 0, 2, 38, 5);
    }

    @Edge(in = "Terms", says = "a fraction, cleared (0 / 1 if it is 0);")
    static void worthIsCleared(Check c) {
        worth(c, "none left of five wide spans", new Bench(), 0, 0, 0, 1);
        worth(c, "none left of the last day", new Bench(), 4, 0, 0, 1);
        worth(c, "behind all", new Bench(), 5, 0, 0, 1);
        worth(c, "days of 0", Setup.sureDays(0, 0, 0), 0, 2, 0, 1);
        worth(c, "45 / 10", new Bench(), 4, 1, 9, 2);
        worth(c, "900 / 100", new Bench(), 3, 2, 9, 1);
        Bench x = waitOfDays(1);
        x.span(0, 0, 1);
        worth(c, "1 / 2", x, 0, 1, 1, 2);
        x.span(0, 1, 3);
        worth(c, "6 / 3", x, 0, 1, 2, 1);
        x.span(0, 9, 9);
        worth(c, "9 / 1", x, 0, 1, 9, 1);
        worth(c, "a long way below the line", waitOfDays(9), 0, 2, 75225711L, 5000000L);
    }

    @Edge(in = "Terms", says = "none if there are fewer DAYS than r.")
    static void noWorth(Check c) {
        for (int d = 1; d <= 9; d++) {
            Bench x = waitOfDays(d);
            for (int day = 0; day <= d; day++) {
                c.due("just r days", x.worth(day, d - day, 1) > 0 ? 1 : 0, 1);
                if (d - day < 9) {
                    c.due("one fewer", x.worth(day, d - day + 1, 0), -4);
                    c.due("one fewer", x.worth(day, d - day + 1, 1), -4);
                    c.due("none of nine", x.worth(day, 9, 0), -4);
                }
            }
        }
        Bench x = waitOfDays(9);
        x.days(2);
        c.due("days that are gone", x.worth(0, 3, 0), -4);
        c.due("days that are gone", x.worth(2, 1, 0), -4);
    }

    @Edge(in = "Terms", says = "A DAY i with r left is CALLED for a number q if r is above 0 and q with WORTH of DAY i + 1 with r - 1 left is not below WORTH of DAY i + 1 with r left,")
    static void calledIfNotBelow(Check c) {
        c.due("none left", new Bench().call(0, 0, 9), 0);
        c.due("none left on the last day", new Bench().call(4, 0, 9), 0);
        c.due("one left", new Bench().call(0, 1, 9), 1);
        Bench like = Setup.sureDays(0, 6);
        c.due("just as good", like.call(0, 1, 6), 1);
        c.due("just below", like.call(0, 1, 5), 0);
        Bench half = new Bench();
        c.due("below 9 / 2", half.call(3, 1, 4), 0);
        c.due("above 9 / 2", half.call(3, 1, 5), 1);
        c.due("below 23 / 4", half.call(2, 1, 5), 0);
        c.due("above 23 / 4", half.call(2, 1, 6), 1);
        Bench mean = new Bench();
        mean.span(4, 1, 7);
        c.due("just the mean 4", mean.call(3, 1, 4), 1);
        c.due("below the mean 4", mean.call(3, 1, 3), 0);
        Bench two = Setup.sureDays(0, 5, 3, 5);
        c.due("two left, 5 + 5 against 5 + 5", two.call(0, 2, 5), 1);
        c.due("two left, 4 + 5 against 5 + 5", two.call(0, 2, 4), 0);
        c.due("three left, 3 + 10 against 13", two.call(0, 3, 3), 1);
        c.due("three left, 2 + 10 against 13", two.call(0, 3, 2), 0);
        c.due("0 against 0", Setup.sureDays(0, 0).call(0, 1, 0), 1);
        c.due("a number that is none of the span", like.call(0, 1, 9), 1);
    }

    @Edge(in = "Terms", says = "or there is none of that.")
    static void calledIfItMustBe(Check c) {
        for (int d = 1; d <= 9; d++) {
            for (int day = 0; day < d; day++) {
                c.due("as many as days", waitOfDays(d).call(day, d - day, 0), 1);
                c.due("as many as days", waitOfDays(d).call(day, d - day, 9), 1);
                if (day + 1 < d) {
                    c.due("one fewer: 0 needn't be", waitOfDays(d).call(day, d - day - 1, 0), 0);
                }
            }
            c.due("none left on the last day", waitOfDays(d).call(d - 1, 0, 9), 0);
        }
    }

    @Edge(in = "Terms", says = "THE RUN: DAYS from 0 on with r left, by what they were, CALLED so;")
    static void runCallsSo(Check c) {
        run(c, "each waits until it must", Setup.waitOf(0, 0, 0, 0, 0), 2, 24, 0, 5);
        run(c, "each is taken at once", Setup.waitOf(9, 9, 9, 9, 9), 2, 3, 18, 5);
        run(c, "the first and the last", Setup.waitOf(7, 1, 1), 2, 5, 8, 3);
        Bench like = Setup.sureDays(6, 6);
        like.was(0, 6);
        like.was(1, 6);
        run(c, "just as good is called", like, 1, 1, 6, 2);
        run(c, "one left of 4 and 5: 4 waits", Setup.waitOf(4, 5), 1, 2, 5, 2);
        run(c, "one left of 5 and 9: 5 is taken", Setup.waitOf(5, 9), 1, 1, 5, 2);
        run(c, "none left", Setup.waitOf(9, 9), 0, 0, 0, 2);
        run(c, "all", Setup.waitOf(0, 3), 2, 3, 3, 2);
    }

    @Edge(in = "Terms", says = "it ends ahead of the first UNKNOWN one.")
    static void runEndsAtTheUnknown(Check c) {
        for (int unknown = 0; unknown < 9; unknown++) {
            Bench x = Setup.waitOf(9, 9, 9, 9, 9, 9, 9, 9, 9);
            x.was(unknown, -1);
            run(c, "day " + unknown + " is unknown", x, 9, (1 << unknown) - 1, 9 * unknown, unknown);
            run(c, "day " + unknown + " is unknown", x, 0, 0, 0, unknown);
            int taken = Math.min(unknown, 1);
            run(c, "day " + unknown + " is unknown", x, 1, taken, 9 * taken, unknown);
        }
        run(c, "all known", Setup.waitOf(9, 9, 9, 9, 9, 9, 9, 9, 9), 9, 511, 81, 9);
        run(c, "none known", new Bench(), 5, 0, 0, 0);
        Bench two = Setup.waitOf(9, 9, 9, 9);
        two.was(1, -1);
        two.was(3, -1);
        run(c, "the first of two", two, 4, 1, 9, 1);
    }

    @Edge(in = "Terms", says = "BEHIND: the greatest sum of r of the DAYS, by what they were (all known).")
    static void behindIsTheGreatestSum(Check c) {
        int[] due = {0, 8, 16, 21, 24, 24};
        for (int r = 0; r <= 5; r++) {
            c.due("behind(" + r + ")", Setup.waitOf(3, 8, 0, 8, 5).behind(r), due[r]);
        }
        c.due("one day, none", Setup.waitOf(9).behind(0), 0);
        c.due("one day", Setup.waitOf(9).behind(1), 9);
        c.due("nine days", Setup.waitOf(9, 9, 9, 9, 9, 9, 9, 9, 9).behind(9), 81);
        c.due("days of 0", Setup.waitOf(0, 0, 0).behind(2), 0);
        c.due("not what THE RUN had", Setup.waitOf(5, 9).behind(1), 9);
        Bench spans = Setup.sureDays(2, 7);
        spans.was(0, 2);
        spans.was(1, 7);
        c.due("by what they were", spans.behind(1), 7);
        for (int unknown = 0; unknown < 3; unknown++) {
            int day = unknown;
            c.refused("day " + day + " is unknown", () -> allButOne(day), x -> x.behind(1), -4);
        }
    }

    private static Bench allButOne(int day) {
        Bench x = Setup.waitOf(4, 5, 6);
        x.was(day, -1);
        return x;
    }

    // ---- promise 17

    @Edge(in = "Promise 17", says = "A new WAIT of d DAYS, as at first: d.")
    static void daysBeginAnew(Check c) {
        for (int d = 1; d <= 9; d++) {
            Bench x = Setup.busy();
            c.due("days", x.days(d), d);
            c.due("many", x.many(4), d);
            c.due("none known", x.many(5), 0);
            for (int day = 0; day < d; day++) {
                halves(c, "spans as at first", x, day, d - day, 9 * (d - day));
                c.due("unknown", x.was(day, 0), -1);
                c.due("0 to 9", x.was(day, 9), 0);
            }
            c.due("rides stay", x.many(1), 2);
            c.due("past stays", x.many(3), 3);
        }
        Bench same = Setup.waitOf(4, 5, 6);
        c.due("as many as there were", same.days(3), 3);
        c.due("none known", same.many(5), 0);
        Bench wide = Setup.sureDays(1, 2, 3, 4, 5, 6, 7, 8, 9);
        wide.was(8, 9);
        wide.days(1);
        wide.days(9);
        c.due("days that come again are unknown", wide.was(8, 0), -1);
        worth(c, "days that come again", wide, 7, 2, 9, 1);
    }

    @Edge(in = "Promise 17", says = "NUMBER: d isn't 1 to 9.")
    static void daysNumber(Check c) {
        for (int d : new int[] {MIN, -1, 0, 10, 11, MAX}) {
            c.refused("days(" + d + ")", Setup::busy, x -> x.days(d), -1);
        }
        c.due("days(1)", Setup.busy().days(1), 1);
        c.due("days(9)", Setup.busy().days(9), 9);
    }

    // ---- promise 18

    @Edge(in = "Promise 18", says = "The SPAN of a DAY (which is UNKNOWN then): 1.")
    static void spanMakesUnknown(Check c) {
        Bench x = Setup.waitOf(4, 5, 6);
        c.due("span", x.span(1, 5, 5), 1);
        c.due("unknown then", x.was(1, -1), -1);
        c.due("other days stay", x.was(0, 4), 4);
        c.due("other days stay", x.was(2, 6), 6);
        c.due("known", x.many(5), 2);
        x.was(1, 5);
        c.due("the same span once more", x.span(1, 5, 5), 1);
        c.due("unknown then", x.many(5), 2);
        c.due("of an unknown day", x.span(1, 0, 9), 1);
        c.due("known", x.many(5), 2);
        c.due("day 0", x.span(0, 0, 0), 1);
        c.due("day d - 1", x.span(2, 9, 9), 1);
        worth(c, "of the spans", x, 0, 3, 27, 2);
        worth(c, "of the spans", x, 0, 1, 9, 1);
        worth(c, "of the spans", x, 1, 1, 9, 1);
        c.due("a wider one", x.span(2, 0, 9), 1);
        worth(c, "a later span reaches the days ahead", x, 0, 1, 23, 4);
    }

    @Edge(in = "Promise 18", says = "NUMBER: there is none such, or a or b isn't 0 to 9, or a is above b.")
    static void spanNumber(Check c) {
        for (int day : new int[] {MIN, -1, 4, 5, 9, MAX}) {
            c.refused("span(" + day + ", 1, 2)", Setup::busy, x -> x.span(day, 1, 2), -1);
        }
        for (int bad : new int[] {MIN, -1, 10, MAX}) {
            c.refused("a is " + bad, Setup::busy, x -> x.span(0, bad, 9), -1);
            c.refused("b is " + bad, Setup::busy, x -> x.span(0, 0, bad), -1);
            c.refused("both are " + bad, Setup::busy, x -> x.span(0, bad, bad), -1);
        }
        for (int b = 0; b < 9; b++) {
            int least = b;
            c.refused("a is one above b", Setup::busy, x -> x.span(0, least + 1, least), -1);
            c.due("a is b", Setup.busy().span(0, b, b), 1);
        }
        c.refused("a is 9, b is 0", Setup::busy, x -> x.span(1, 9, 0), -1);
        c.refused("day 9 of nine", () -> waitOfDays(9), x -> x.span(9, 0, 9), -1);
        c.refused("day 1 of one", () -> waitOfDays(1), x -> x.span(1, 0, 9), -1);
        c.due("day 8 of nine", waitOfDays(9).span(8, 0, 9), 1);
        c.due("day 0 of one", waitOfDays(1).span(0, 9, 9), 1);
    }

    // ---- promise 19

    @Edge(in = "Promise 19", says = "What a DAY was (-1: UNKNOWN): what it was ahead of that (-1: UNKNOWN).")
    static void wasAnswersWhatWas(Check c) {
        Bench x = waitOfDays(9);
        c.due("unknown", x.was(8, 0), -1);
        c.due("0", x.was(8, 9), 0);
        c.due("9", x.was(8, 9), 9);
        c.due("known", x.many(5), 1);
        c.due("9 still", x.was(8, -1), 9);
        c.due("unknown again", x.was(8, -1), -1);
        c.due("known", x.many(5), 0);
        c.due("the day beside", x.was(7, 4), -1);
        c.due("day 0", x.was(0, 5), -1);
        c.due("each its own", x.was(7, 4), 4);
        c.due("known", x.many(5), 2);
        x.span(0, 6, 6);
        c.due("the only number of a span", x.was(0, 6), -1);
        c.due("it stays", x.was(0, 6), 6);
        c.unchanged("unknown to unknown", Setup::busy, y -> y.was(2, -1));
    }

    @Edge(in = "Promise 19", says = "NUMBER is answered as -9: there is no such DAY, or q is none of its SPAN (nor -1).")
    static void wasNumber(Check c) {
        for (int day : new int[] {MIN, -1, 4, 5, 9, MAX}) {
            c.refused("was(" + day + ", 5)", Setup::busy, x -> x.was(day, 5), -9);
            c.refused("was(" + day + ", -1)", Setup::busy, x -> x.was(day, -1), -9);
        }
        for (int q : new int[] {MIN, -9, -2, 0, 1, 8, 9, 10, MAX}) {
            c.refused("was(1, " + q + ") of 2 to 7", Setup::busy, x -> x.was(1, q), -9);
        }
        for (int q : new int[] {MIN, -2, 3, 5, 10, MAX}) {
            c.refused("was(3, " + q + ") of 4 alone", Setup::busy, x -> x.was(3, q), -9);
        }
        for (int q : new int[] {MIN, -2, 10, MAX}) {
            c.refused("was(0, " + q + ") of 0 to 9", Setup::busy, x -> x.was(0, q), -9);
        }
        c.due("was(1, 2) of 2 to 7", Setup.busy().was(1, 2), 2);
        c.due("was(1, 7) of 2 to 7", Setup.busy().was(1, 7), 2);
        c.due("was(3, 4) of 4 alone", Setup.busy().was(3, 4), -1);
    }

    // ---- promise 20

    @Edge(in = "Promise 20", says = "WORTH of a DAY (also d: behind all) with r left: what = 0 above, 1 below the line.")
    static void worthAnswers(Check c) {
        for (int d = 1; d <= 9; d++) {
            worth(c, "behind all", waitOfDays(d), d, 0, 0, 1);
            worth(c, "the last day", waitOfDays(d), d - 1, 1, 9, 2);
            worth(c, "day 0, none left", waitOfDays(d), 0, 0, 0, 1);
        }
        c.unchanged("worth(0, 2, 0)", Setup::busy, x -> x.worth(0, 2, 0));
        c.unchanged("worth(4, 0, 1)", Setup::busy, x -> x.worth(4, 0, 1));
        worth(c, "nine days, r is 9", waitOfDays(9), 0, 9, 81, 2);
        worth(c, "nine days, r is 8", waitOfDays(9), 0, 8, 3084696L, 78125L);
        worth(c, "nine days, r is 1", waitOfDays(9), 0, 1, 1247517L, 156250L);
    }

    @Edge(in = "Promise 20", says = "NUMBER is answered as -9: there is no such DAY, r isn't 0 to 9, or another what;")
    static void worthNumber(Check c) {
        for (int day : new int[] {MIN, -1, 5, 6, 9, 10, MAX}) {
            c.refused("worth(" + day + ", 0, 0)", Setup::busy, x -> x.worth(day, 0, 0), -9);
            c.refused("NUMBER ahead of NONE, day " + day, Setup::busy, x -> x.worth(day, 9, 0), -9);
        }
        for (int r : new int[] {MIN, -1, 10, 11, MAX}) {
            c.refused("worth(0, " + r + ", 0)", Setup::busy, x -> x.worth(0, r, 0), -9);
            c.refused("of nine days, r is " + r, () -> waitOfDays(9), x -> x.worth(0, r, 1), -9);
        }
        for (int what : new int[] {MIN, -1, 2, 3, MAX}) {
            c.refused("worth(0, 1, " + what + ")", Setup::busy, x -> x.worth(0, 1, what), -9);
            c.refused("NUMBER ahead of NONE, what " + what, Setup::busy, x -> x.worth(0, 5, what), -9);
        }
        c.refused("day 10 of nine", () -> waitOfDays(9), x -> x.worth(10, 0, 0), -9);
        c.refused("all three", Setup::busy, x -> x.worth(5, 10, 2), -9);
    }

    @Edge(in = "Promise 20", says = "NONE is answered as -4.")
    static void worthNone(Check c) {
        for (int what = 0; what <= 1; what++) {
            int kind = what;
            c.refused("five of four", Setup::busy, x -> x.worth(0, 5, kind), -4);
            c.refused("nine of four", Setup::busy, x -> x.worth(0, 9, kind), -4);
            c.refused("two of the last", Setup::busy, x -> x.worth(3, 2, kind), -4);
            c.refused("one behind all", Setup::busy, x -> x.worth(4, 1, kind), -4);
            c.refused("one behind nine", () -> waitOfDays(9), x -> x.worth(9, 1, kind), -4);
            c.refused("nine of eight", () -> waitOfDays(9), x -> x.worth(1, 9, kind), -4);
        }
        worth(c, "four of four", Setup.busy(), 0, 4, 35, 2);
        c.due("nine of nine", waitOfDays(9).worth(0, 9, 1), 2);
    }

    // ---- promise 21

    @Edge(in = "Promise 21", says = "Whether a DAY with r left is CALLED for a number q: 1, 0.")
    static void callAnswers(Check c) {
        // The days behind are worth 6.915, 6.45, 5.75, 4.5; behind the last one there is none.
        int[] from = {7, 7, 6, 5, 0};
        for (int day = 0; day < 5; day++) {
            for (int q = 0; q <= 9; q++) {
                c.due("one left, day " + day + ", " + q, new Bench().call(day, 1, q), q >= from[day] ? 1 : 0);
                c.due("none left, day " + day + ", " + q, new Bench().call(day, 0, q), 0);
            }
        }
        c.unchanged("call(0, 1, 9)", Setup::busy, x -> x.call(0, 1, 9));
        c.unchanged("call(0, 1, 0)", Setup::busy, x -> x.call(0, 1, 0));
        c.due("the last of nine", waitOfDays(9).call(8, 1, 0), 1);
        c.due("the first of nine, r is 9", waitOfDays(9).call(0, 9, 0), 1);
        c.due("a known day too", Setup.waitOf(0, 0).call(0, 1, 5), 1);
        c.due("a known day too", Setup.waitOf(9, 0).call(0, 1, 4), 0);
    }

    @Edge(in = "Promise 21", says = "NUMBER: there is no such DAY, r isn't 0 to 9, or q isn't 0 to 9;")
    static void callNumber(Check c) {
        for (int day : new int[] {MIN, -1, 4, 5, 9, MAX}) {
            c.refused("call(" + day + ", 0, 5)", Setup::busy, x -> x.call(day, 0, 5), -1);
            c.refused("NUMBER ahead of NONE, day " + day, Setup::busy, x -> x.call(day, 9, 5), -1);
        }
        for (int r : new int[] {MIN, -1, 10, 11, MAX}) {
            c.refused("call(0, " + r + ", 5)", Setup::busy, x -> x.call(0, r, 5), -1);
            c.refused("of nine days, r is " + r, () -> waitOfDays(9), x -> x.call(0, r, 5), -1);
        }
        for (int q : new int[] {MIN, -1, 10, 11, MAX}) {
            c.refused("call(0, 1, " + q + ")", Setup::busy, x -> x.call(0, 1, q), -1);
            c.refused("none left, q is " + q, Setup::busy, x -> x.call(0, 0, q), -1);
            c.refused("NUMBER ahead of NONE, q is " + q, Setup::busy, x -> x.call(0, 5, q), -1);
        }
        c.refused("the day behind all of nine", () -> waitOfDays(9), x -> x.call(9, 0, 5), -1);
        c.refused("all three", Setup::busy, x -> x.call(4, 10, 10), -1);
        c.due("q is 0", Setup.busy().call(3, 1, 0), 1);
        c.due("q is 9", Setup.busy().call(3, 1, 9), 1);
    }

    @Edge(in = "Promise 21", says = "NONE: there are fewer DAYS from it on than r.")
    static void callNone(Check c) {
        c.refused("five of four", Setup::busy, x -> x.call(0, 5, 9), -4);
        c.refused("nine of four", Setup::busy, x -> x.call(0, 9, 0), -4);
        c.refused("two of the last", Setup::busy, x -> x.call(3, 2, 9), -4);
        c.refused("nine of eight", () -> waitOfDays(9), x -> x.call(1, 9, 9), -4);
        c.refused("two of one", () -> waitOfDays(1), x -> x.call(0, 2, 9), -4);
        c.due("four of four", Setup.busy().call(0, 4, 0), 1);
        c.due("one of the last", Setup.busy().call(3, 1, 0), 1);
        c.due("nine of nine", waitOfDays(9).call(0, 9, 0), 1);
    }

    // ---- promise 22

    @Edge(in = "Promise 22", says = "THE RUN with r to be CALLED: what = 0 which DAYS are CALLED, as bits, 1 the sum of what they were, 2 how many DAYS it went by.")
    static void runAnswers(Check c) {
        run(c, "day 0 is the lowest bit", Setup.waitOf(9, 0, 0), 1, 1, 9, 3);
        run(c, "day 8 is the bit 256", Setup.waitOf(0, 0, 0, 0, 0, 0, 0, 0, 3), 1, 256, 3, 9);
        run(c, "all nine", Setup.waitOf(1, 2, 3, 4, 5, 6, 7, 8, 9), 9, 511, 45, 9);
        run(c, "one day", Setup.waitOf(7), 1, 1, 7, 1);
        run(c, "one day, none", Setup.waitOf(7), 0, 0, 0, 1);
        run(c, "a called 0 is in the bits", Setup.waitOf(0, 0), 2, 3, 0, 2);
        for (int what = 0; what <= 2; what++) {
            int kind = what;
            c.unchanged("run(2, " + what + ")", Setup::busy, x -> x.run(2, kind));
        }
    }

    @Edge(in = "Promise 22", says = "NUMBER: r isn't 0 to d, or another what.")
    static void runNumber(Check c) {
        for (int r : new int[] {MIN, -1, 5, 6, 9, 10, MAX}) {
            c.refused("run(" + r + ", 0)", Setup::busy, x -> x.run(r, 0), -1);
            c.refused("run(" + r + ", 2)", Setup::busy, x -> x.run(r, 2), -1);
        }
        for (int what : new int[] {MIN, -1, 3, 4, MAX}) {
            c.refused("run(1, " + what + ")", Setup::busy, x -> x.run(1, what), -1);
            c.refused("none known, " + what, Setup::fresh, x -> x.run(1, what), -1);
        }
        c.refused("ten of nine", () -> waitOfDays(9), x -> x.run(10, 0), -1);
        c.refused("two of one", () -> waitOfDays(1), x -> x.run(2, 0), -1);
        c.refused("both", Setup::busy, x -> x.run(5, 3), -1);
        c.due("r is 0", Setup.busy().run(0, 2), 2);
        c.due("r is d", Setup.busy().run(4, 0), 3);
        c.due("nine of nine", waitOfDays(9).run(9, 0), 0);
    }

    // ---- promise 23

    @Edge(in = "Promise 23", says = "BEHIND for r.")
    static void behindAnswers(Check c) {
        c.due("r is 0", Setup.waitOf(4, 5, 6).behind(0), 0);
        c.due("r is 1", Setup.waitOf(4, 5, 6).behind(1), 6);
        c.due("r is d", Setup.waitOf(4, 5, 6).behind(3), 15);
        c.unchanged("behind(2)", () -> Setup.waitOf(4, 5, 6), x -> x.behind(2));
        c.due("nine of nine", Setup.waitOf(1, 2, 3, 4, 5, 6, 7, 8, 9).behind(9), 45);
        c.due("eight of nine", Setup.waitOf(1, 2, 3, 4, 5, 6, 7, 8, 9).behind(8), 44);
    }

    @Edge(in = "Promise 23", says = "NUMBER: r isn't 0 to d;")
    static void behindNumber(Check c) {
        for (int r : new int[] {MIN, -1, 4, 5, 9, 10, MAX}) {
            c.refused("behind(" + r + ")", () -> Setup.waitOf(4, 5, 6), x -> x.behind(r), -1);
            c.refused("NUMBER ahead of NONE, " + r, () -> allButOne(1), x -> x.behind(r), -1);
        }
        c.refused("ten of nine", () -> Setup.waitOf(1, 2, 3, 4, 5, 6, 7, 8, 9), x -> x.behind(10), -1);
    }

    @Edge(in = "Promise 23", says = "NONE: some DAY is UNKNOWN.")
    static void behindNone(Check c) {
        for (int r = 0; r <= 3; r++) {
            int left = r;
            c.refused("one is unknown, r is " + r, () -> allButOne(2), x -> x.behind(left), -4);
        }
        c.refused("none is known", Setup::fresh, x -> x.behind(0), -4);
        c.refused("none of nine is known", () -> waitOfDays(9), x -> x.behind(9), -4);
        Bench x = Setup.waitOf(4, 5, 6);
        x.span(0, 4, 4);
        c.due("a new span makes unknown", x.behind(3), -4);
        x.was(0, 4);
        c.due("known again", x.behind(3), 15);
    }
}
