/** Term 1: the bounds of heats, rides, marks and scores, THE LINE, interferences, totals, places, needs. */
public final class HeatTermsEdgesTest {
    public static void main(String[] args) throws Exception {
        Edges.run(HeatTermsEdgesTest.class);
    }

    @Edge(in = "Terms", says = "A HEAT has RIDERS 0 to n - 1 (n 2 to 4; 2 at first).")
    static void ridersOfAHeat(Check c) {
        c.due("riders at first", new Bench().many(0), 2);
        c.due("rider 1 at first", new Bench().take(1, 0), 0);
        c.refused("rider 2 at first", Setup::fresh, x -> x.take(2, 0), -1);
        for (int n = 2; n <= 4; n++) {
            int riders = n;
            c.due("heat(n)", new Bench().heat(n), n);
            c.due("many(0)", Setup.heatOf(n).many(0), n);
            c.due("rider 0", Setup.heatOf(n).take(0, 0), 0);
            c.due("rider n - 1", Setup.heatOf(n).take(n - 1, 0), 0);
            c.refused("rider n", () -> Setup.heatOf(riders), x -> x.take(riders, 0), -1);
            c.refused("rider -1", () -> Setup.heatOf(riders), x -> x.take(-1, 0), -1);
        }
        c.refused("n is 1", Setup::busy, x -> x.heat(1), -1);
        c.refused("n is 5", Setup::busy, x -> x.heat(5), -1);
    }

    @Edge(in = "Terms", says = "JUDGES are 0 to 4.")
    static void judges(Check c) {
        Bench x = Setup.rides(1);
        for (int judge = 0; judge < 5; judge++) {
            x.mark(0, judge, 10 + judge);
        }
        for (int judge = 0; judge < 5; judge++) {
            c.due("each judge has a mark of its own", x.mark(0, judge, -1), 10 + judge);
        }
        c.refused("judge -1", Setup::busy, y -> y.mark(0, -1, 9), -9);
        c.refused("judge 5", Setup::busy, y -> y.mark(0, 5, 9), -9);
    }

    @Edge(in = "Terms", says = "RIDES are numbered from 0 as they come, 30 at most, each of a RIDER on a WAVE (0 to 99);")
    static void ridesOfAHeat(Check c) {
        Bench x = Setup.heatOf(3);
        for (int i = 0; i < 30; i++) {
            c.due("the next number", x.take(i % 3, (i * 37) % 100), i);
            x.back(i % 3);
        }
        c.due("many(1)", x.many(1), 30);
        for (int i = 0; i < 30; i++) {
            c.due("its rider", x.of(i, 0), i % 3);
            c.due("its wave", x.of(i, 1), (i * 37) % 100);
        }
        c.due("the 30th ride", Setup.rides(29).take(1, 0), 29);
        c.refused("the 31st ride", () -> Setup.rides(30), y -> y.take(1, 0), -2);
        c.due("no ride 30", Setup.rides(30).of(30, 1), -1);
        Bench y = new Bench();
        y.take(0, 0);
        y.take(1, 99);
        c.due("wave 0", y.of(0, 1), 0);
        c.due("wave 99", y.of(1, 1), 99);
        c.refused("wave -1", Setup::busy, z -> z.take(0, -1), -1);
        c.refused("wave 100", Setup::busy, z -> z.take(0, 100), -1);
    }

    @Edge(in = "Terms", says = "a RIDE has a MARK of each JUDGE (0 to 100), or none of it (none at first).")
    static void marksOfARide(Check c) {
        Bench x = Setup.heatOf(2);
        x.take(0, 1);
        c.due("no marks at first", x.of(0, 2), 0);
        for (int judge = 0; judge < 5; judge++) {
            c.due("none at first", x.mark(0, judge, judge % 2 == 0 ? 0 : 100), -1);
            c.due("how many", x.of(0, 2), judge + 1);
        }
        for (int judge = 0; judge < 5; judge++) {
            c.due("0 and 100 are marks", x.mark(0, judge, -1), judge % 2 == 0 ? 0 : 100);
            c.due("how many", x.of(0, 2), 4 - judge);
        }
        c.refused("a mark of 101", Setup::busy, y -> y.mark(0, 0, 101), -9);
        c.refused("a mark of -2", Setup::busy, y -> y.mark(0, 0, -2), -9);
    }

    private static int scoreOf(int... marks) {
        Bench x = Setup.heatOf(2);
        x.take(0, 1);
        Setup.marks(x, 0, marks);
        return x.of(0, 3);
    }

    @Edge(in = "Terms", says = "SCORE of a RIDE: of its m MARKS, if m is 4 or 5 one of the greatest and one of the least is put aside;")
    static void whichMarksCount(Check c) {
        c.due("m is 1", scoreOf(100), 300);
        c.due("m is 2: both", scoreOf(0, 100), 150);
        c.due("m is 3: all", scoreOf(0, 50, 70), 120);
        c.due("m is 4: two", scoreOf(0, 50, 70, 100), 180);
        c.due("m is 5: three", scoreOf(0, 50, 60, 90, 100), 200);
        c.due("in any order", scoreOf(60, 100, 0, 90, 50), 200);
        c.due("m is 4 without judge 2", scoreOf(100, 0, -1, 50, 70), 180);
        c.due("m is 3 without judges 0 and 1", scoreOf(-1, -1, 0, 50, 70), 120);
        c.due("one of two greatest", scoreOf(10, 20, 90, 90), 165);
        c.due("one of two least", scoreOf(10, 10, 80, 90), 135);
        c.due("one of three greatest", scoreOf(10, 90, 90, 90), 270);
        c.due("one of three least", scoreOf(10, 90, 10, 10), 30);
        c.due("one of two of each", scoreOf(10, 90, 40, 10, 90), 140);
        c.due("four like ones", scoreOf(40, 40, 40, 40), 120);
        c.due("five like ones", scoreOf(40, 40, 40, 40, 40), 120);
        c.due("five of the least there are", scoreOf(0, 0, 0, 0, 0), 0);
        c.due("five of the greatest there are", scoreOf(100, 100, 100, 100, 100), 300);
        Bench x = Setup.heatOf(2);
        x.take(0, 1);
        Setup.marks(x, 0, 0, 50, 60, 90, 100);
        x.mark(0, 4, -1);
        c.due("the fifth taken away", x.of(0, 3), 165);
        x.mark(0, 0, -1);
        c.due("the fourth taken away", x.of(0, 3), 200);
        x.mark(0, 0, 20);
        c.due("a fourth again", x.of(0, 3), 165);
    }

    @Edge(in = "Terms", says = "it is three times the sum of those that are left by how many these are, the rest away;")
    static void scoreIsCutDown(Check c) {
        c.due("3 * 1 / 2", scoreOf(0, 1), 1);
        c.due("3 * 67 / 2, not 3 * 33", scoreOf(33, 34), 100);
        c.due("3 * 111 / 2", scoreOf(50, 61), 166);
        c.due("3 * 199 / 2", scoreOf(99, 100), 298);
        c.due("3 * 1 / 3", scoreOf(0, 0, 1), 1);
        c.due("3 * 299 / 3", scoreOf(100, 100, 99), 299);
        c.due("3 * 3 / 2 of four", scoreOf(0, 1, 2, 3), 4);
        c.due("3 * 4 / 3 of five", scoreOf(0, 1, 1, 2, 9), 4);
        c.due("one mark", scoreOf(1), 3);
    }

    @Edge(in = "Terms", says = "0 without MARKS.")
    static void scoreWithoutMarks(Check c) {
        c.due("none was given", scoreOf(), 0);
        c.due("all are none", scoreOf(-1, -1, -1, -1, -1), 0);
        Bench x = Setup.heatOf(2);
        x.take(0, 1);
        x.mark(0, 3, 80);
        x.mark(0, 3, -1);
        c.due("the only one was taken away", x.of(0, 3), 0);
    }

    @Edge(in = "Terms", says = "THE LINE is the row of RIDERS who wait outside, the first one may go first; at first all, by numbers.")
    static void lineAtFirst(Check c) {
        Bench x = new Bench();
        c.due("two at first", x.many(2), 2);
        for (int n = 2; n <= 4; n++) {
            c.due("all", Setup.heatOf(n).many(2), n);
            for (int i = 0; i < n; i++) {
                c.due("by numbers", Setup.heatOf(n).line(i), i);
            }
            c.due("no more", Setup.heatOf(n).line(n), -4);
        }
        Bench y = Setup.busy();
        y.heat(4);
        for (int i = 0; i < 4; i++) {
            c.due("by numbers again as a heat begins", y.line(i), i);
        }
    }

    private static void line(Check c, Bench x, int... riders) {
        c.due("how many are in the line", x.many(2), riders.length);
        for (int i = 0; i < riders.length; i++) {
            c.due("line(" + i + ")", x.line(i), riders[i]);
        }
        c.due("the line's end", x.line(riders.length), -4);
    }

    @Edge(in = "Terms", says = "Who takes a WAVE leaves THE LINE; who comes back stands at its end.")
    static void lineAsRidersGoAndCome(Check c) {
        Bench x = Setup.heatOf(4);
        x.take(1, 1);
        line(c, x, 0, 2, 3);
        x.take(0, 2);
        line(c, x, 2, 3);
        x.take(3, 3);
        line(c, x, 2);
        x.take(2, 4);
        line(c, x);
        x.back(3);
        line(c, x, 3);
        x.back(0);
        line(c, x, 3, 0);
        x.back(2);
        x.back(1);
        line(c, x, 3, 0, 2, 1);
        x.take(1, 5);
        x.back(1);
        line(c, x, 3, 0, 2, 1);
        x.take(3, 6);
        x.back(3);
        line(c, x, 0, 2, 1, 3);
    }

    private static void faults(Check c, String when, Bench x, int... times) {
        int all = 0;
        for (int rider = 0; rider < times.length; rider++) {
            c.due(when + ": rider " + rider, x.told(rider, 3), times[rider]);
            all += times[rider];
        }
        c.due(when + ": all", x.many(6), all);
    }

    @Edge(in = "Terms", says = {
        "When a RIDER takes a WAVE that is the one that the latest RIDE was on, and was not yet LET GO, those who ride it are OVER one another:",
        "of these the one who stood first in THE LINE as it was when the first of them took the WAVE has the right, all others have INTERFERED, "})
    static void whoHasTheRight(Check c) {
        Bench x = Setup.heatOf(4);
        x.take(2, 5);
        faults(c, "alone", x, 0, 0, 0, 0);
        x.take(3, 5);
        faults(c, "2 stood ahead of 3", x, 0, 0, 0, 1);
        x.take(0, 5);
        faults(c, "0 stood ahead of both", x, 0, 0, 1, 1);
        x.take(1, 5);
        faults(c, "all four", x, 0, 1, 1, 1);
        Bench y = Setup.heatOf(2);
        y.take(0, 1);
        y.back(0);
        y.take(0, 2);
        y.take(1, 2);
        faults(c, "by the line, not by numbers", y, 1, 0);
        Bench z = Setup.heatOf(3);
        z.take(1, 5);
        z.back(1);
        z.take(2, 5);
        faults(c, "by the line as it was, not as it is", z, 0, 0, 1);
    }

    /** A line of four that begins with this rider and goes on by numbers, 0 behind 3. */
    private static Bench lineFrom(int first) {
        Bench x = Setup.heatOf(4);
        for (int rider = 0; rider < first; rider++) {
            x.take(rider, rider);
            x.back(rider);
        }
        return x;
    }

    @Edge(in = "Terms", says = "of these the one who stood first in THE LINE as it was when the first of them took the WAVE has the right, all others have INTERFERED, ")
    static void eachMayHaveTheRight(Check c) {
        for (int first = 0; first < 4; first++) {
            Bench x = lineFrom(first);
            int[] due = new int[4];
            x.take(first, 9);
            faults(c, "alone", x, due);
            for (int i = 1; i < 4; i++) {
                int next = (first + i) % 4;
                x.take(next, 9);
                due[next] = 1;
                faults(c, first + " stood and came first, then " + next, x, due);
            }
            Bench y = lineFrom(first);
            for (int i = 3; i >= 0; i--) {
                y.take((first + i) % 4, 9);
            }
            faults(c, first + " stood first and came last", y, due);
        }
    }

    @Edge(in = "Terms", says = "When a RIDER takes a WAVE that is the one that the latest RIDE was on, and was not yet LET GO, those who ride it are OVER one another:")
    static void whoIsNotOverAnother(Check c) {
        Bench x = Setup.heatOf(3);
        x.take(2, 0);
        x.take(1, 99);
        x.take(0, 98);
        faults(c, "each on another wave", x, 0, 0, 0);
        Bench y = Setup.heatOf(3);
        y.take(2, 5);
        y.take(1, 6);
        y.take(0, 5);
        faults(c, "the wave ahead of the latest", y, 0, 0, 0);
        Bench z = Setup.heatOf(2);
        z.take(1, 5);
        z.back(1);
        z.take(1, 5);
        faults(c, "the same rider again", z, 0, 0);
    }

    @Edge(in = "Terms", says = "once for that WAVE.")
    static void onceForAWave(Check c) {
        Bench x = Setup.heatOf(2);
        x.take(0, 5);
        x.take(1, 5);
        faults(c, "once", x, 0, 1);
        for (int i = 0; i < 3; i++) {
            x.back(1);
            x.take(1, 5);
            faults(c, "the same wave again", x, 0, 1);
        }
        x.back(0);
        x.take(0, 5);
        faults(c, "the one with the right again", x, 0, 1);
        x.back(0);
        x.back(1);
        x.take(0, 6);
        x.take(1, 6);
        faults(c, "another wave", x, 0, 2);
        Bench y = Setup.heatOf(3);
        y.take(2, 5);
        y.take(1, 5);
        y.take(0, 5);
        y.back(2);
        y.take(2, 5);
        faults(c, "once, whoever has the right by then", y, 0, 1, 1);
    }

    @Edge(in = "Terms", says = "(Who wasn't in THE LINE then stands behind all who were, the lesser number first.)")
    static void whoWasNotInTheLine(Check c) {
        Bench x = Setup.heatOf(3);
        x.take(0, 1);
        x.take(1, 2);
        x.take(2, 3);
        x.back(0);
        x.back(1);
        x.take(0, 3);
        faults(c, "2 took it from the line, 0 was away", x, 1, 0, 0);
        x.take(1, 3);
        faults(c, "1 was away too", x, 1, 1, 0);
        Bench y = Setup.heatOf(3);
        y.take(0, 1);
        y.take(1, 2);
        y.back(0);
        y.take(0, 2);
        y.take(2, 2);
        faults(c, "0 was away, 1 and 2 were in the line", y, 1, 0, 1);
        Bench z = Setup.heatOf(3);
        z.take(0, 1);
        z.take(2, 2);
        z.back(0);
        z.take(0, 2);
        faults(c, "2 ahead of 0 so far", z, 1, 0, 0);
        z.take(1, 2);
        faults(c, "1 was in the line, ahead of 2", z, 1, 0, 1);
        for (int away = 0; away < 4; away++) {
            for (int taker = 0; taker < 4; taker++) {
                if (taker != away) {
                    oneWasAway(c, away, taker);
                }
            }
        }
    }

    private static void oneWasAway(Check c, int away, int taker) {
        Bench x = Setup.heatOf(4);
        x.take(away, 1);
        x.take(taker, 2);
        x.back(away);
        x.take(away, 2);
        int[] due = new int[4];
        due[away] = 1;
        faults(c, away + " was away as " + taker + " took the wave", x, due);
    }

    @Edge(in = "Terms", says = "A WAVE is LET GO by a RIDE on another one, by letGo(), and as a HEAT begins.")
    static void whatLetsAWaveGo(Check c) {
        Bench ride = Setup.heatOf(3);
        ride.take(2, 5);
        ride.take(1, 6);
        ride.back(2);
        ride.take(0, 5);
        faults(c, "a ride on another one", ride, 0, 0, 0);
        Bench call = Setup.heatOf(2);
        call.take(1, 5);
        call.letGo();
        call.take(0, 5);
        faults(c, "letGo()", call, 0, 0);
        Bench heat = Setup.heatOf(2);
        heat.take(1, 5);
        heat.heat(2);
        heat.take(0, 5);
        faults(c, "a heat begins", heat, 0, 0);
        c.due("it is a new one then", heat.letGo(), 1);
        Bench back = Setup.heatOf(2);
        back.take(1, 5);
        back.back(1);
        back.mark(0, 0, 50);
        back.take(0, 5);
        faults(c, "not by who comes back, nor by marks", back, 0, 1);
        Bench refused = Setup.heatOf(2);
        refused.take(1, 5);
        refused.take(1, 6);
        refused.take(0, 100);
        refused.heat(5);
        refused.take(0, 5);
        faults(c, "not by refused calls", refused, 0, 1);
    }

    @Edge(in = "Terms", says = "TOTAL of a RIDER: its best SCORE and its second best one (0 without) together;")
    static void totalOfTheTwoBest(Check c) {
        Bench x = Setup.heatOf(2);
        c.due("no ride", x.told(1, 4), 0);
        Setup.ride(x, 1, -1);
        c.due("a ride without marks", x.told(1, 4), 0);
        Setup.ride(x, 1, 20);
        c.due("one score", x.told(1, 4), 60);
        Setup.ride(x, 1, 10);
        c.due("two scores", x.told(1, 4), 90);
        Setup.ride(x, 1, 5);
        c.due("the third is too little", x.told(1, 4), 90);
        Setup.ride(x, 1, 15);
        c.due("a better second", x.told(1, 4), 105);
        Setup.ride(x, 1, 20);
        c.due("twice the best", x.told(1, 4), 120);
        Setup.ride(x, 1, 100);
        c.due("a better best", x.told(1, 4), 360);
        Setup.ride(x, 1, 100);
        c.due("the greatest there is", x.told(1, 4), 600);
        c.due("of this rider alone", x.told(0, 4), 0);
    }

    private static Bench interfered(int times, int... scores) {
        Bench x = Setup.heatOf(2);
        for (int i = 0; i < times; i++) {
            Setup.interfere(x, 1, i);
        }
        for (int score : scores) {
            int ride = x.take(1, x.many(1) + 50);
            Setup.score(x, ride, score);
            x.back(1);
        }
        return x;
    }

    @Edge(in = "Terms", says = "having INTERFERED once the second best counts half of it, the rest away;")
    static void totalHavingInterferedOnce(Check c) {
        c.due("not once", interfered(0, 99, 111).told(1, 4), 210);
        c.due("once", interfered(1, 99, 111).told(1, 3), 1);
        c.due("111 + 49", interfered(1, 99, 111).told(1, 4), 160);
        c.due("111 + 50", interfered(1, 111, 100).told(1, 4), 161);
        c.due("half of 1", interfered(1, 1, 1).told(1, 4), 1);
        c.due("without a second", interfered(1, 111).told(1, 4), 111);
        c.due("without any", interfered(1).told(1, 4), 0);
        c.due("300 + 150", interfered(1, 300, 300, 300).told(1, 4), 450);
        c.due("the second best is told whole", interfered(1, 99, 111).told(1, 2), 99);
    }

    @Edge(in = "Terms", says = "having INTERFERED twice or more TOTAL is its best SCORE alone, half of it, the rest away.")
    static void totalHavingInterferedTwice(Check c) {
        c.due("twice", interfered(2, 99, 111).told(1, 3), 2);
        c.due("half of 111", interfered(2, 99, 111).told(1, 4), 55);
        c.due("half of 110", interfered(2, 110, 99).told(1, 4), 55);
        c.due("half of 1", interfered(2, 1).told(1, 4), 0);
        c.due("without any", interfered(2).told(1, 4), 0);
        c.due("300", interfered(2, 300, 300).told(1, 4), 150);
        c.due("three times", interfered(3, 99, 111).told(1, 4), 55);
        c.due("ten times", interfered(10, 99, 111).told(1, 4), 55);
        c.due("ten times", interfered(10, 99, 111).told(1, 3), 10);
        c.due("the best is told whole", interfered(2, 99, 111).told(1, 1), 111);
    }

    @Edge(in = "Terms", says = {
        "BETTER is, of two RIDERS, who has the greater TOTAL, of like ones the greater best SCORE, of like ones the lesser number;",
        "PLACE of a RIDER: how many are BETTER."})
    static void placesAndTies(Check c) {
        places(c, "nobody has a ride", Setup.heatOf(4), 0, 1, 2, 3);
        Bench total = Setup.heatOf(4);
        Setup.ride(total, 3, 12);
        Setup.ride(total, 2, 11);
        Setup.ride(total, 1, 10);
        places(c, "by totals", total, 3, 2, 1, 0);
        Bench best = Setup.heatOf(4);
        Setup.ride(best, 0, 30);
        Setup.ride(best, 0, 30);
        Setup.ride(best, 1, 40);
        Setup.ride(best, 1, 20);
        Setup.ride(best, 2, 60);
        Setup.ride(best, 3, 31);
        Setup.ride(best, 3, 29);
        places(c, "like totals, by the best", best, 3, 1, 0, 2);
        Bench number = Setup.heatOf(4);
        Setup.ride(number, 3, 40);
        Setup.ride(number, 2, 40);
        Setup.ride(number, 0, 40);
        Setup.ride(number, 1, 40);
        places(c, "like bests, by numbers", number, 0, 1, 2, 3);
        Bench over = Setup.heatOf(2);
        Setup.interfere(over, 1, 7);
        Setup.ride(over, 1, 50);
        Setup.ride(over, 1, 50);
        Setup.ride(over, 0, 50);
        Setup.ride(over, 0, 26);
        places(c, "interferences cost places", over, 0, 1);
        Bench half = interfered(2, 300);
        half.take(0, 70);
        Setup.score(half, half.many(1) - 1, 150);
        places(c, "like totals, the whole best decides", half, 1, 0);
    }

    private static void places(Check c, String when, Bench x, int... due) {
        for (int rider = 0; rider < due.length; rider++) {
            c.due(when + ": place of " + rider, x.told(rider, 5), due[rider]);
        }
    }

    private static Bench against(int rider, int... scores) {
        Bench x = Setup.heatOf(2);
        for (int score : scores) {
            int ride = x.take(rider, x.many(1));
            Setup.score(x, ride, score);
            x.back(rider);
        }
        return x;
    }

    @Edge(in = "Terms", says = "NEED of a RIDER for PLACE k: the least SCORE (0 to 300) of one more RIDE with which its PLACE would be k or less;")
    static void leastNeed(Check c) {
        c.due("0 is enough, being there already", against(0, 100).need(0, 0), 0);
        c.due("0 is enough of nothing at all", against(0).need(0, 0), 0);
        c.due("k or less", against(0, 100).need(0, 1), 0);
        c.due("1", against(0).need(1, 0), 1);
        c.due("one more than the like one", against(0, 100).need(1, 0), 101);
        c.due("just the like one", against(1, 100).need(0, 0), 100);
        c.due("299 and one more", against(0, 299).need(1, 0), 300);
        c.due("just 300", against(1, 300).need(0, 0), 300);
        Bench second = against(0, 200, 100);
        Setup.ride(second, 1, 60);
        c.due("with what it has: like total, lesser best", second.need(1, 0), 121);
        Setup.ride(second, 1, 10);
        c.due("the second best is put in the place of", second.need(1, 0), 121);
        Bench third = Setup.heatOf(3);
        Setup.ride(third, 0, 90);
        Setup.ride(third, 1, 20);
        c.due("k is 0", third.need(2, 0), 271);
        c.due("k is 1", third.need(2, 1), 61);
        c.due("k is 2", third.need(2, 2), 0);
        c.due("k is 3", third.need(2, 3), 0);
    }

    @Edge(in = "Terms", says = "none if 300 is not enough.")
    static void noNeed(Check c) {
        c.refused("300 is there, by a lesser number", () -> against(0, 300), x -> x.need(1, 0), -4);
        c.refused("301 is there", () -> against(1, 300, 1), x -> x.need(0, 0), -4);
        c.due("300 is there, by a greater number", against(1, 300, 0).need(0, 0), 300);
        c.refused("600 is there", () -> against(0, 300, 300), x -> x.need(1, 0), -4);
        c.due("the second place is", against(0, 300, 300).need(1, 1), 0);
        c.due("twice interfered, 149 is there, with a lesser best", twiceAgainst(149).need(1, 0), 298);
        c.due("twice interfered, 150 is there, with a lesser best", twiceAgainst(150).need(1, 0), 300);
        c.refused("twice interfered, 151 is there", () -> twiceAgainst(151), x -> x.need(1, 0), -4);
    }

    /** Rider 1 has interfered twice, so half of one more ride is all that it can have. */
    private static Bench twiceAgainst(int score) {
        Bench x = interfered(2);
        int ride = x.take(0, 90);
        Setup.score(x, ride, score);
        return x;
    }
}
