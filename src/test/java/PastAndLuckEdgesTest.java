import java.util.function.Supplier;

/** Term 2 and promises 11 to 16: PAST empty and full, chances, and rides dealt anew. */
public final class PastAndLuckEdgesTest {
    private static final int MAX = Integer.MAX_VALUE;
    private static final int MIN = Integer.MIN_VALUE;

    public static void main(String[] args) throws Exception {
        Edges.run(PastAndLuckEdgesTest.class);
    }

    /** Rides with one mark each, by turns of the riders, and PAST with so many scores. */
    private static Bench marked(int rides, int past) {
        Bench x = Setup.past(past);
        for (int i = 0; i < rides; i++) {
            x.take(i % 2, i);
            x.mark(i, 0, i);
            x.back(i % 2);
        }
        return x;
    }

    /** Rider 0 needs just this score to be first. */
    private static Bench needing(int score, int... past) {
        Bench x = Setup.heatOf(2);
        x.take(1, 0);
        Setup.score(x, 0, score);
        for (int one : past) {
            x.past(one);
        }
        return x;
    }

    private static void chance(Check c, String when, Bench x, int above, int below) {
        c.due(when + ": above", x.chance(0, 0, 0), above);
        c.due(when + ": below", x.chance(0, 0, 1), below);
    }

    // ---- term 2

    @Edge(in = "Terms", says = "PAST is a row of SCORES (0 to 300), 40 at most.")
    static void pastIsBounded(Check c) {
        c.due("a score of 0", new Bench().past(0), 1);
        c.due("a score of 300", new Bench().past(300), 1);
        c.refused("a score of -1", Setup::busy, x -> x.past(-1), -1);
        c.refused("a score of 301", Setup::busy, x -> x.past(301), -1);
        c.due("the 40th", Setup.past(39).past(1), 40);
        c.refused("the 41st", () -> Setup.past(40), x -> x.past(1), -2);
        Bench x = Setup.heatOf(2);
        for (int i = 0; i < 40; i++) {
            x.past(300);
        }
        c.due("like scores are as many", x.many(3), 40);
    }

    @Edge(in = "Terms", says = "CHANCE of a NEED: how many of PAST are not below it, by how many there are, cleared (0 / 1 if it is 0).")
    static void chanceAtItsBounds(Check c) {
        chance(c, "just below", needing(150, 149), 0, 1);
        chance(c, "just the need", needing(150, 150), 1, 1);
        chance(c, "just above", needing(150, 151), 1, 1);
        chance(c, "a need of 0 and a score of 0", needing(0, 0), 1, 1);
        chance(c, "a need of 300", needing(300, 299, 300), 1, 2);
        chance(c, "none of three is 0 / 1", needing(150, 0, 1, 149), 0, 1);
        chance(c, "all of three is 1 / 1", needing(150, 150, 300, 200), 1, 1);
        chance(c, "two of four", needing(150, 150, 149, 300, 0), 1, 2);
        chance(c, "two of three", needing(150, 150, 149, 300), 2, 3);
        chance(c, "four of six", needing(150, 150, 149, 300, 150, 0, 150), 2, 3);
        chance(c, "three of six", needing(150, 150, 149, 300, 0, 0, 150), 1, 2);
        Bench full = needing(7, new int[0]);
        for (int i = 0; i < 40; i++) {
            full.past(i);
        }
        chance(c, "33 of 40", full, 33, 40);
        Setup.score(full, 0, 8);
        chance(c, "32 of 40", full, 4, 5);
        Setup.score(full, 0, 39);
        chance(c, "1 of 40", full, 1, 40);
        Setup.score(full, 0, 40);
        chance(c, "0 of 40", full, 0, 1);
        Setup.score(full, 0, 0);
        chance(c, "40 of 40", full, 1, 1);
    }

    /** Riders by the digits of a text, each ride with the mark beside it. */
    private static Bench dealt(int n, String riders, int... marks) {
        Bench x = Setup.heatOf(n);
        for (int i = 0; i < marks.length; i++) {
            Setup.ride(x, riders.charAt(i) - '0', marks[i]);
        }
        return x;
    }

    @Edge(in = "Terms", says = {
        "LUCK of a RIDER: all RIDES of the HEAT are dealt anew: WAYS are all ways to give each RIDER just as many of the RIDES as it had",
        "it is in how many of these its PLACE is 0."})
    static void dealtAnew(Check c) {
        Bench none = Setup.heatOf(4);
        c.due("no ride: one way", none.ways(), 1);
        c.due("no ride: the lesser number is first", none.luck(0), 1);
        c.due("no ride: 3", none.luck(3), 0);
        Bench one = dealt(4, "3", 10);
        c.due("one ride: one way", one.ways(), 1);
        c.due("one ride: who had it", one.luck(3), 1);
        c.due("one ride: who had none", one.luck(0), 0);
        Bench own = dealt(2, "11111111", 1, 2, 3, 4, 5, 6, 7, 8);
        c.due("all of one rider: one way", own.ways(), 1);
        c.due("all of one rider", own.luck(1), 1);
        c.due("all of one rider: the other", own.luck(0), 0);
        Bench like = dealt(2, "0101", 50, 50, 50, 50);
        c.due("like rides are other rides", like.ways(), 6);
        c.due("like rides: the lesser number", like.luck(0), 6);
        c.due("like rides: the greater number", like.luck(1), 0);
        Bench bare = dealt(2, "10", -1, -1);
        c.due("rides without marks are dealt too", bare.ways(), 2);
        c.due("rides without marks", bare.luck(0), 2);
        Bench four = dealt(4, "01230123", 80, 70, 60, 50, 40, 30, 20, 10);
        c.due("two each of eight", four.ways(), 2520);
        int all = 0;
        for (int rider = 0; rider < 4; rider++) {
            all += four.luck(rider);
        }
        c.due("just one is first in each way", all, 2520);
    }

    @Edge(in = "Terms", says = "(a RIDE's SCORE goes with it; INTERFERENCES stay with RIDERS);")
    static void whatGoesAndWhatStays(Check c) {
        Bench score = dealt(2, "01", 50, 60);
        c.due("who has the 60 is first: 0", score.luck(0), 1);
        c.due("who has the 60 is first: 1", score.luck(1), 1);
        Bench once = Setup.heatOf(2);
        once.take(0, 5);
        once.take(1, 5);
        Setup.marks(once, 0, 10);
        Setup.marks(once, 1, 20);
        once.back(0);
        once.back(1);
        Setup.ride(once, 1, 30);
        Setup.ride(once, 1, 40);
        // Rider 1 with 10, 20, 30 has 30 + 20 / 2: as much as the 40 of rider 0, whose best is greater.
        c.due("once: ways", once.ways(), 4);
        c.due("once: 0", once.luck(0), 1);
        c.due("once: 1", once.luck(1), 3);
        Bench twice = Setup.heatOf(2);
        for (int wave = 1; wave <= 2; wave++) {
            twice.take(0, wave);
            twice.take(1, wave);
            twice.back(0);
            twice.back(1);
        }
        Setup.marks(twice, 0, 10);
        Setup.marks(twice, 1, 50);
        Setup.marks(twice, 2, 20);
        Setup.marks(twice, 3, 60);
        // Rider 1 has half of its best: 30 of the 60, 25 of the 50. Rider 0 has less only with 10 and 20 (30,
        // as much, but of a lesser best).
        c.due("twice: ways", twice.ways(), 6);
        c.due("twice: 0", twice.luck(0), 5);
        c.due("twice: 1", twice.luck(1), 1);
    }

    @Edge(in = "Terms", says = "(With 8 RIDES at most.)")
    static void eightRidesAtMost(Check c) {
        c.due("eight: ways", marked(8, 0).ways(), 70);
        c.due("eight: luck", marked(8, 0).luck(0) + marked(8, 0).luck(1), 70);
        c.refused("nine: ways", () -> marked(9, 0), Bench::ways, -5);
        c.refused("nine: luck", () -> marked(9, 0), x -> x.luck(1), -5);
    }

    // ---- promise 11

    @Edge(in = "Promise 11", says = "A SCORE comes to PAST: how many there are.")
    static void pastAnswersHowMany(Check c) {
        Bench x = new Bench();
        for (int i = 1; i <= 40; i++) {
            c.due("past", x.past(i % 2 == 0 ? 300 : 0), i);
        }
        c.due("many(3)", x.many(3), 40);
        x.forget();
        c.due("from 1 again", x.past(5), 1);
    }

    @Edge(in = "Promise 11", says = "NUMBER: it isn't 0 to 300;")
    static void pastNumber(Check c) {
        for (int score : new int[] {MIN, -2, -1, 301, 302, MAX}) {
            c.refused("past(" + score + ")", Setup::busy, x -> x.past(score), -1);
            c.refused("NUMBER ahead of FULL", () -> Setup.past(40), x -> x.past(score), -1);
        }
        c.due("past(0)", Setup.busy().past(0), 4);
        c.due("past(300)", Setup.busy().past(300), 4);
    }

    @Edge(in = "Promise 11", says = "FULL.")
    static void pastFull(Check c) {
        c.due("the 39th", Setup.past(38).past(300), 39);
        c.due("the 40th", Setup.past(39).past(300), 40);
        c.refused("a 41st of 0", () -> Setup.past(40), x -> x.past(0), -2);
        c.refused("a 41st of 300", () -> Setup.past(40), x -> x.past(300), -2);
    }

    // ---- promise 12

    @Edge(in = "Promise 12", says = "SCORES of all RIDES that have MARKS come to PAST, by numbers: how many came.")
    static void keepAnswersHowMany(Check c) {
        c.due("without rides", new Bench().keep(), 0);
        c.unchanged("keep() without rides", Setup::fresh, Bench::keep);
        c.due("without marks", dealt(2, "01", -1, -1).keep(), 0);
        c.unchanged("keep() without marks", () -> dealt(2, "01", -1, -1), Bench::keep);
        c.due("a mark of 0 is one", dealt(2, "01", 0, -1).keep(), 1);
        c.due("30 rides", Setup.rides(30).keep(), 30);
        Bench x = dealt(2, "0101", 40, -1, 0, 60);
        x.mark(3, 0, -1);
        c.due("a mark taken away is none", x.keep(), 2);
        c.due("many(3)", x.many(3), 2);
        x.mark(3, 0, 60);
        c.due("again, with one more", x.keep(), 3);
        c.due("many(3)", x.many(3), 5);
        c.due("rides stay", x.many(1), 4);
        c.due("marks stay", x.of(3, 2), 1);
    }

    @Edge(in = "Promise 12", says = "SCORES of all RIDES that have MARKS come to PAST, by numbers: how many came.")
    static void keepTakesScoresAsTheyAre(Check c) {
        Bench x = dealt(2, "10", 50, 20);
        x.keep();
        chance(c, "150 of 60 and 150", x, 1, 2);
        x.mark(1, 0, -1);
        x.mark(0, 0, 30);
        chance(c, "90 of 60 and 150", x, 1, 2);
        x.heat(2);
        c.due("they stay as the heat goes", x.many(3), 2);
        x.take(1, 0);
        Setup.score(x, 0, 60);
        chance(c, "60 of 60 and 150", x, 1, 1);
        Setup.score(x, 0, 61);
        chance(c, "61 of 60 and 150", x, 1, 2);
        Setup.score(x, 0, 150);
        chance(c, "150 of 60 and 150", x, 1, 2);
        Setup.score(x, 0, 151);
        chance(c, "151 of 60 and 150", x, 0, 1);
    }

    @Edge(in = "Promise 12", says = "FULL: there would be more than 40.")
    static void keepFull(Check c) {
        c.due("just 40 with 30 rides", marked(30, 10).keep(), 30);
        c.refused("41 with 30 rides", () -> marked(30, 11), Bench::keep, -2);
        c.due("just 40 with one ride", marked(1, 39).keep(), 1);
        c.refused("41 with one ride", () -> marked(1, 40), Bench::keep, -2);
        c.refused("41 with two rides: none of them comes", () -> marked(2, 39), Bench::keep, -2);
        Bench x = marked(1, 40);
        x.mark(0, 0, -1);
        c.due("40 and none to come", x.keep(), 0);
        c.due("40 and no rides", Setup.past(40).keep(), 0);
        Bench y = marked(30, 10);
        y.keep();
        c.due("many(3)", y.many(3), 40);
        c.due("once more", y.keep(), -2);
        y.forget();
        c.due("room again", y.keep(), 30);
    }

    // ---- promise 13

    @Edge(in = "Promise 13", says = "PAST is empty: how many there were.")
    static void forgetAnswersHowMany(Check c) {
        Bench x = new Bench();
        c.due("none", x.forget(), 0);
        c.unchanged("forget() without past", Setup::fresh, Bench::forget);
        x.past(300);
        c.due("one", x.forget(), 1);
        c.due("none again", x.forget(), 0);
        Bench full = Setup.past(40);
        c.due("40", full.forget(), 40);
        c.due("empty", full.many(3), 0);
        chance(c, "without past", full, 0, 1);
        c.due("room again", full.past(0), 1);
        full.take(1, 0);
        full.mark(0, 0, 1);
        chance(c, "the old ones are gone", full, 0, 1);
        Bench rides = marked(3, 2);
        rides.forget();
        c.due("rides stay", rides.many(1), 3);
        c.due("marks stay", rides.of(2, 2), 1);
    }

    // ---- promise 14

    @Edge(in = "Promise 14", says = "CHANCE of the NEED of a RIDER for PLACE k: what = 0 above, 1 below the line (0 / 1 also without PAST).")
    static void chanceAnswers(Check c) {
        chance(c, "without past", needing(150), 0, 1);
        chance(c, "without past, with a need of 0", new Bench(), 0, 1);
        chance(c, "with past", needing(150, 100, 200, 300), 2, 3);
        Bench x = Setup.busy();
        // PAST is 120, 200, 300; rider 2 needs 166 for place 0, 106 for place 1, 1 for place 2, 0 for place 3.
        int[][] due = {{2, 3}, {1, 1}, {1, 1}, {1, 1}};
        for (int k = 0; k <= 3; k++) {
            for (int what = 0; what <= 1; what++) {
                int place = k;
                int kind = what;
                c.due("chance(2, " + k + ", " + what + ")", x.chance(2, k, what), due[k][what]);
                c.unchanged("chance(2, " + k + ", " + what + ")", Setup::busy, y -> y.chance(2, place, kind));
            }
        }
    }

    @Edge(in = "Promise 14", says = "NUMBER: as of need(), or another what;")
    static void chanceNumber(Check c) {
        for (int rider : new int[] {MIN, -1, 4, 5, MAX}) {
            c.refused("chance(" + rider + ", 0, 0)", Setup::busy, x -> x.chance(rider, 0, 0), -1);
        }
        for (int k : new int[] {MIN, -1, 4, 5, MAX}) {
            c.refused("chance(0, " + k + ", 0)", Setup::busy, x -> x.chance(0, k, 0), -1);
        }
        for (int what : new int[] {MIN, -1, 2, 3, MAX}) {
            c.refused("chance(0, 0, " + what + ")", Setup::busy, x -> x.chance(0, 0, what), -1);
            c.refused("without past, " + what, Setup::fresh, x -> x.chance(0, 0, what), -1);
            c.refused("NUMBER ahead of NONE, " + what, () -> Setup.rides(30), x -> x.chance(1, 0, what), -1);
        }
        c.refused("rider 2 of 2, without past", Setup::fresh, x -> x.chance(2, 0, 1), -1);
        c.refused("k is 4, without past", Setup::fresh, x -> x.chance(0, 4, 1), -1);
        c.refused("all three", Setup::busy, x -> x.chance(4, 4, 2), -1);
    }

    @Edge(in = "Promise 14", says = "NONE: there is no NEED.")
    static void chanceNone(Check c) {
        for (int what = 0; what <= 1; what++) {
            int kind = what;
            c.refused("without past", () -> Setup.rides(30), x -> x.chance(1, 0, kind), -4);
            c.refused("with past", PastAndLuckEdgesTest::pastButNoNeed, x -> x.chance(1, 0, kind), -4);
        }
        c.due("a need of 300 is one", needing(300, 300).chance(0, 0, 0), 1);
        c.due("for place 1 there is one", Setup.rides(30).chance(1, 1, 1), 1);
    }

    private static Bench pastButNoNeed() {
        Bench x = Setup.past(40);
        Setup.ride(x, 0, 100);
        return x;
    }

    // ---- promise 15

    @Edge(in = "Promise 15", says = "How many WAYS there are.")
    static void waysAnswers(Check c) {
        int[] two = {1, 1, 2, 3, 6, 10, 20, 35, 70};
        for (int rides = 0; rides <= 8; rides++) {
            int count = rides;
            c.due("by turns of two", marked(rides, 0).ways(), two[rides]);
            c.unchanged("ways()", () -> marked(count, 0), Bench::ways);
        }
        int[] marks = {10, 20, 30, 40, 50, 60, 70, 80};
        c.due("by turns of three", dealt(3, "01201201", marks).ways(), 560);
        c.due("by turns of four", dealt(4, "01230123", marks).ways(), 2520);
        c.due("seven and one", dealt(2, "00000001", marks).ways(), 8);
        c.due("five, one, one, one", dealt(4, "00000123", marks).ways(), 336);
        c.due("all of the last rider", dealt(4, "33333333", marks).ways(), 1);
    }

    @Edge(in = "Promise 15", says = "LARGE.")
    static void waysLarge(Check c) {
        c.due("eight", Setup.rides(8).ways(), 1);
        for (int rides : new int[] {9, 10, 29, 30}) {
            c.refused(rides + " rides", () -> Setup.rides(rides), Bench::ways, -5);
        }
        Bench x = Setup.rides(9);
        x.heat(2);
        c.due("a new heat", x.ways(), 1);
    }

    // ---- promise 16

    @Edge(in = "Promise 16", says = "LUCK of a RIDER.")
    static void luckAnswers(Check c) {
        int[] marks = {10, 20, 30, 40, 50, 60, 70, 80};
        luck(c, "the best is of one of the four", () -> dealt(4, "01230123", marks), new int[] {630, 630, 630, 630});
        luck(c, "seven and one", () -> dealt(2, "00000001", marks), new int[] {8, 0});
        luck(c, "the last of eight decides", () -> dealt(2, "01010101", 0, 0, 0, 0, 0, 0, 0, 90), new int[] {35, 35});
        luck(c, "the first of eight decides", () -> dealt(2, "00000111", 90, 0, 0, 0, 0, 0, 0, 0), new int[] {35, 21});
        luck(c, "none of rider 0", () -> dealt(3, "1212", 10, 20, 30, 40), new int[] {0, 3, 3});
        luck(c, "nobody", Setup::fresh, new int[] {1, 0});
        luck(c, "of three, one each", () -> dealt(3, "012", 30, 20, 10), new int[] {2, 2, 2});
    }

    private static void luck(Check c, String when, Supplier<Bench> state, int[] due) {
        for (int rider = 0; rider < due.length; rider++) {
            int who = rider;
            c.due(when + ": luck(" + rider + ")", state.get().luck(rider), due[rider]);
            c.unchanged(when + ": luck(" + rider + ")", state, x -> x.luck(who));
        }
    }

    @Edge(in = "Promise 16", says = "NUMBER: there is none such;")
    static void luckNumber(Check c) {
        for (int rider : new int[] {MIN, -1, 4, 5, MAX}) {
            c.refused("luck(" + rider + ")", Setup::busy, x -> x.luck(rider), -1);
        }
        c.refused("rider 2 of 2", Setup::fresh, x -> x.luck(2), -1);
        c.refused("rider 3 of 3", () -> Setup.heatOf(3), x -> x.luck(3), -1);
        c.refused("NUMBER ahead of LARGE", () -> Setup.rides(9), x -> x.luck(2), -1);
        c.refused("NUMBER ahead of LARGE", () -> Setup.rides(30), x -> x.luck(-1), -1);
        c.due("rider 3 of 4", Setup.heatOf(4).luck(3), 0);
    }

    @Edge(in = "Promise 16", says = "LARGE.")
    static void luckLarge(Check c) {
        c.due("eight", Setup.rides(8).luck(0), 1);
        for (int rides : new int[] {9, 10, 29, 30}) {
            c.refused(rides + " rides, 0", () -> Setup.rides(rides), x -> x.luck(0), -5);
            c.refused(rides + " rides, 1", () -> Setup.rides(rides), x -> x.luck(1), -5);
        }
        Bench x = Setup.rides(9);
        x.heat(2);
        c.due("a new heat", x.luck(0), 1);
    }
}
