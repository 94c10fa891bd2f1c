/** Promises 2 to 10: what each call on a heat answers at its bounds, and each refusal that it names. */
public final class HeatsEdgesTest {
    private static final int MAX = Integer.MAX_VALUE;
    private static final int MIN = Integer.MIN_VALUE;

    public static void main(String[] args) throws Exception {
        Edges.run(HeatsEdgesTest.class);
    }

    /** All away from THE LINE; riders 0 and 2 on wave 9, which is not let go. */
    private static Bench emptyLine() {
        Bench x = Setup.heatOf(3);
        x.take(1, 8);
        x.take(2, 9);
        x.take(0, 9);
        x.mark(2, 0, 30);
        return x;
    }

    /** Rider 1 is away, but not on the wave of the latest ride. */
    private static Bench awayFromTheWave() {
        Bench x = Setup.heatOf(4);
        x.take(1, 5);
        x.take(3, 6);
        return x;
    }

    /** Riders 1 to 3 have interfered on wave 1; then 0 comes to stand last, and does so on wave 2. */
    private static Bench allHaveInterfered() {
        Bench x = Setup.heatOf(4);
        for (int wave = 1; wave <= 2; wave++) {
            for (int rider = 0; rider < 4; rider++) {
                x.take(rider, wave);
            }
            for (int rider = 3; rider >= 0; rider--) {
                x.back(rider);
            }
        }
        return x;
    }

    // ---- promise 2

    @Edge(in = "Promise 2", says = "A new HEAT of n RIDERS, without RIDES, INTERFERENCES: n.")
    static void heatBeginsAnew(Check c) {
        for (int n = 2; n <= 4; n++) {
            Bench x = Setup.busy();
            c.due("heat", x.heat(n), n);
            c.due("riders", x.many(0), n);
            c.due("no rides", x.many(1), 0);
            c.due("all in the line", x.many(2), n);
            c.due("no interferences", x.many(6), 0);
            c.due("no ride 0", x.of(0, 0), -1);
            c.due("none to be marked", x.mark(0, 0, 5), -9);
            c.due("no wave to let go", x.letGo(), 0);
            for (int rider = 0; rider < n; rider++) {
                c.due("line", x.line(rider), rider);
                for (int what = 0; what <= 4; what++) {
                    c.due("nothing to be told of", x.told(rider, what), 0);
                }
                c.due("place", x.told(rider, 5), rider);
            }
            c.due("the first number again", x.take(0, 5), 0);
            c.due("no mark of the ride that had this number", x.of(0, 2), 0);
            c.due("nor its score", x.of(0, 3), 0);
            for (int judge = 0; judge < 5; judge++) {
                c.due("none of any judge", x.mark(0, judge, -1), -1);
            }
        }
    }

    @Edge(in = "Promise 2", says = "A new HEAT of n RIDERS, without RIDES, INTERFERENCES: n.")
    static void heatOfLikeSizeAndAfterAFullOne(Check c) {
        Bench x = Setup.rides(30);
        c.due("as many as there were", x.heat(2), 2);
        c.due("no rides", x.many(1), 0);
        c.due("there is room again", x.take(0, 0), 0);
        Bench y = Setup.busy();
        y.heat(2);
        y.heat(4);
        c.due("riders that were gone have nothing", y.told(3, 3), 0);
        c.due("riders that were gone have nothing", y.told(3, 4), 0);
        for (int n = 2; n <= 4; n++) {
            Bench faulty = allHaveInterfered();
            faulty.heat(n);
            c.due("no interferences", faulty.many(6), 0);
            for (int rider = 0; rider < n; rider++) {
                c.due("no interferences of rider " + rider, faulty.told(rider, 3), 0);
            }
        }
        Bench z = new Bench();
        c.due("ahead of any ride", z.heat(2), 2);
        c.due("riders", z.many(0), 2);
    }

    @Edge(in = "Promise 2", says = "A new HEAT of n RIDERS, without RIDES, INTERFERENCES: n.")
    static void heatLeavesPastAndDays(Check c) {
        Bench x = Setup.busy();
        x.heat(3);
        c.due("past", x.many(3), 3);
        c.due("days", x.many(4), 4);
        c.due("known", x.many(5), 2);
        c.due("a span", x.worth(3, 1, 0), 4);
    }

    @Edge(in = "Promise 2", says = "NUMBER: n isn't 2 to 4.")
    static void heatNumber(Check c) {
        for (int n : new int[] {MIN, -4, -1, 0, 1, 5, 6, MAX}) {
            c.refused("heat(" + n + ")", Setup::busy, x -> x.heat(n), -1);
        }
        c.due("heat(2)", Setup.busy().heat(2), 2);
        c.due("heat(4)", Setup.busy().heat(4), 4);
    }

    // ---- promise 3

    @Edge(in = "Promise 3", says = "A RIDER takes a WAVE: the RIDE's number.")
    static void takeAnswersTheNumber(Check c) {
        Bench x = Setup.heatOf(4);
        c.due("the first", x.take(3, 99), 0);
        c.due("the second", x.take(0, 0), 1);
        c.due("its rider", x.of(0, 0), 3);
        c.due("its wave", x.of(0, 1), 99);
        c.due("rider 0", x.of(1, 0), 0);
        c.due("wave 0", x.of(1, 1), 0);
        c.due("a refused one takes no number", x.take(0, 1), -3);
        c.due("the third", x.take(1, 1), 2);
        c.due("from the middle of the line too", Setup.heatOf(4).take(2, 1), 0);
    }

    @Edge(in = "Promise 3", says = "NUMBER: there is no such RIDER, WAVE;")
    static void takeNumber(Check c) {
        for (int rider : new int[] {MIN, -1, 4, 5, MAX}) {
            c.refused("take(" + rider + ", 5)", Setup::busy, x -> x.take(rider, 5), -1);
        }
        for (int wave : new int[] {MIN, -1, 100, 101, MAX}) {
            c.refused("take(0, " + wave + ")", Setup::busy, x -> x.take(0, wave), -1);
        }
        for (int n = 2; n <= 3; n++) {
            int riders = n;
            c.refused("a rider of a greater heat", () -> Setup.heatOf(riders), x -> x.take(riders, 0), -1);
        }
        c.refused("both", Setup::busy, x -> x.take(4, 100), -1);
        c.refused("NUMBER ahead of STATE", Setup::busy, x -> x.take(1, 100), -1);
        c.refused("NUMBER ahead of FULL, wave", () -> Setup.rides(30), x -> x.take(1, 100), -1);
        c.refused("NUMBER ahead of FULL, rider", () -> Setup.rides(30), x -> x.take(2, 0), -1);
        c.refused("NUMBER ahead of both", () -> Setup.rides(30), x -> x.take(0, -1), -1);
        c.due("take(3, 99)", Setup.busy().take(3, 99), 2);
        c.due("take(0, 0)", Setup.busy().take(0, 0), 2);
    }

    @Edge(in = "Promise 3", says = "STATE: it isn't in THE LINE;")
    static void takeState(Check c) {
        c.refused("on the same wave", Setup::busy, x -> x.take(1, 5), -3);
        c.refused("on another wave", Setup::busy, x -> x.take(1, 6), -3);
        c.refused("on a wave that others ride", HeatsEdgesTest::awayFromTheWave, x -> x.take(1, 6), -3);
        for (int rider = 0; rider < 3; rider++) {
            int who = rider;
            c.refused("nobody is in the line", HeatsEdgesTest::emptyLine, x -> x.take(who, 9), -3);
        }
        c.refused("STATE ahead of FULL", () -> Setup.rides(30), x -> x.take(0, 0), -3);
        c.refused("STATE ahead of FULL, same wave", () -> Setup.rides(30), x -> x.take(0, 29), -3);
        Bench x = Setup.busy();
        x.back(1);
        c.due("in it again", x.take(1, 5), 2);
    }

    @Edge(in = "Promise 3", says = "FULL.")
    static void takeFull(Check c) {
        c.due("the 30th", Setup.rides(29).take(1, 50), 29);
        c.refused("the 31st, on another wave", () -> Setup.rides(30), x -> x.take(1, 50), -2);
        c.refused("the 31st, on the same wave", () -> Setup.rides(30), x -> x.take(1, 29), -2);
        Bench x = Setup.rides(30);
        x.take(1, 29);
        c.due("nobody has interfered", x.many(6), 0);
        c.due("still in the line", x.line(0), 1);
        x.letGo();
        c.due("also when the wave was let go", x.take(1, 29), -2);
        x.heat(2);
        c.due("room in a new heat", x.take(1, 29), 0);
    }

    // ---- promise 4

    @Edge(in = "Promise 4", says = "A RIDER comes back to THE LINE: how many are in it.")
    static void backAnswersHowMany(Check c) {
        Bench x = Setup.heatOf(4);
        for (int rider = 0; rider < 4; rider++) {
            x.take(rider, rider);
        }
        c.due("to the empty line", x.back(2), 1);
        c.due("two", x.back(0), 2);
        c.due("three", x.back(3), 3);
        c.due("all", x.back(1), 4);
        int[] line = {2, 0, 3, 1};
        for (int i = 0; i < 4; i++) {
            c.due("as they came", x.line(i), line[i]);
        }
        c.due("rides stay", x.many(1), 4);
        c.due("with 30 rides too", Setup.rides(30).back(0), 2);
    }

    @Edge(in = "Promise 4", says = "NUMBER: there is none such;")
    static void backNumber(Check c) {
        for (int rider : new int[] {MIN, -1, 4, 5, MAX}) {
            c.refused("back(" + rider + ")", Setup::busy, x -> x.back(rider), -1);
        }
        c.refused("rider 3 of 3", HeatsEdgesTest::emptyLine, x -> x.back(3), -1);
        c.refused("rider 2 of 2", Setup::fresh, x -> x.back(2), -1);
        c.due("rider 2 of 3", emptyLine().back(2), 1);
        c.due("rider 0", emptyLine().back(0), 1);
    }

    @Edge(in = "Promise 4", says = "STATE: it is in it.")
    static void backState(Check c) {
        for (int rider = 0; rider < 4; rider++) {
            int who = rider;
            c.refused("all are in it", () -> Setup.heatOf(4), x -> x.back(who), -3);
        }
        c.refused("first in it", Setup::busy, x -> x.back(0), -3);
        c.refused("last in it", Setup::busy, x -> x.back(3), -3);
        Bench x = emptyLine();
        c.due("away", x.back(1), 1);
        c.due("back already", x.back(1), -3);
        c.due("still one", x.many(2), 1);
    }

    // ---- promise 5

    @Edge(in = "Promise 5", says = "The WAVE of the latest RIDE is LET GO: 1 if it wasn't, else 0 (also without RIDES).")
    static void letGoAnswersOnce(Check c) {
        Bench x = new Bench();
        c.due("without rides", x.letGo(), 0);
        c.due("without rides, again", x.letGo(), 0);
        x.take(0, 0);
        c.due("wave 0", x.letGo(), 1);
        c.due("it was", x.letGo(), 0);
        x.take(1, 0);
        c.due("the same number anew", x.letGo(), 1);
        x.back(1);
        c.due("coming back is no ride", x.letGo(), 0);
        x.back(0);
        x.take(0, 98);
        x.take(1, 99);
        c.due("the latest alone", x.letGo(), 1);
        c.due("the one ahead of it was let go by it", x.letGo(), 0);
        x.heat(2);
        c.due("a new heat has none", x.letGo(), 0);
        x.take(1, 7);
        x.heat(2);
        c.due("let go as the heat began", x.letGo(), 0);
        Bench full = Setup.rides(30);
        c.due("the 30th ride", full.letGo(), 1);
        c.due("and again", full.letGo(), 0);
        c.unchanged("letGo() without rides", Setup::fresh, Bench::letGo);
    }

    @Edge(in = "Promise 5", says = "The WAVE of the latest RIDE is LET GO: 1 if it wasn't, else 0 (also without RIDES).")
    static void letGoKeepsAllElse(Check c) {
        Bench x = Setup.busy();
        x.letGo();
        c.due("rides", x.many(1), 2);
        c.due("in the line", x.many(2), 3);
        c.due("interferences", x.many(6), 1);
        c.due("a score", x.of(0, 3), 166);
    }

    // ---- promise 6

    @Edge(in = "Promise 6", says = "A MARK of a JUDGE for a RIDE (-1: none): what it was (-1: none).")
    static void markAnswersWhatWas(Check c) {
        Bench x = Setup.heatOf(2);
        x.take(0, 1);
        x.take(1, 2);
        c.due("none", x.mark(1, 4, 0), -1);
        c.due("0", x.mark(1, 4, 100), 0);
        c.due("100", x.mark(1, 4, 100), 100);
        c.due("100 still", x.mark(1, 4, -1), 100);
        c.due("none again", x.mark(1, 4, -1), -1);
        c.due("none, and counted so", x.of(1, 2), 0);
        c.due("the other ride has none", x.mark(0, 4, 7), -1);
        c.due("the other judge has none", x.mark(0, 3, 8), -1);
        c.due("each its own", x.mark(0, 4, 9), 7);
        c.due("the ride beside has none", x.mark(1, 0, 5), -1);
        Bench full = Setup.rides(30);
        c.due("ride 29, judge 4", full.mark(29, 4, 1), 87);
        c.due("ride 0, judge 0", full.mark(0, 0, 1), 0);
    }

    @Edge(in = "Promise 6", says = "NUMBER is answered as -9: there is no such RIDE, JUDGE, or v isn't -1 to 100.")
    static void markNumber(Check c) {
        c.refused("without rides", Setup::fresh, x -> x.mark(0, 0, 50), -9);
        for (int ride : new int[] {MIN, -1, 2, 29, 30, 858993460, MAX}) {
            c.refused("mark(" + ride + ", 0, 9)", Setup::busy, x -> x.mark(ride, 0, 9), -9);
        }
        for (int judge : new int[] {MIN, -1, 5, 6, MAX}) {
            c.refused("mark(0, " + judge + ", 9)", Setup::busy, x -> x.mark(0, judge, 9), -9);
            c.refused("mark(1, " + judge + ", 9)", Setup::busy, x -> x.mark(1, judge, 9), -9);
        }
        for (int v : new int[] {MIN, -9, -2, 101, 102, MAX}) {
            c.refused("mark(0, 0, " + v + ")", Setup::busy, x -> x.mark(0, 0, v), -9);
        }
        c.refused("ride 30 of 30", () -> Setup.rides(30), x -> x.mark(30, 0, 9), -9);
        c.refused("none for no ride", Setup::busy, x -> x.mark(2, 0, -1), -9);
        c.refused("all three", Setup::busy, x -> x.mark(2, 5, 101), -9);
        Bench gone = Setup.rides(30);
        gone.heat(2);
        c.due("a ride of the heat before", gone.mark(0, 0, 9), -9);
        c.due("mark(1, 4, 100)", Setup.busy().mark(1, 4, 100), 0);
        c.due("mark(0, 0, -1)", Setup.busy().mark(0, 0, -1), 50);
    }

    // ---- promise 7

    @Edge(in = "Promise 7", says = "Of a RIDE: what = 0 its RIDER, 1 its WAVE, 2 how many MARKS, 3 its SCORE.")
    static void ofAnswersEach(Check c) {
        Bench x = Setup.busy();
        int[][] due = {{3, 5, 2, 166}, {1, 5, 2, 105}};
        for (int ride = 0; ride < 2; ride++) {
            for (int what = 0; what <= 3; what++) {
                int asked = ride;
                int kind = what;
                c.due("of(" + ride + ", " + what + ")", x.of(ride, what), due[ride][what]);
                c.unchanged("of(" + ride + ", " + what + ")", Setup::busy, y -> y.of(asked, kind));
            }
        }
        Bench full = Setup.rides(30);
        c.due("the last ride's rider", full.of(29, 0), 0);
        c.due("the last ride's wave", full.of(29, 1), 29);
        c.due("the last ride's marks", full.of(29, 2), 1);
        c.due("the last ride's score", full.of(29, 3), 261);
    }

    @Edge(in = "Promise 7", says = "NUMBER: there is none such, another what.")
    static void ofNumber(Check c) {
        c.refused("without rides", Setup::fresh, x -> x.of(0, 0), -1);
        for (int ride : new int[] {MIN, -1, 2, 29, 30, MAX}) {
            c.refused("of(" + ride + ", 0)", Setup::busy, x -> x.of(ride, 0), -1);
        }
        for (int what : new int[] {MIN, -1, 4, 5, MAX}) {
            c.refused("of(0, " + what + ")", Setup::busy, x -> x.of(0, what), -1);
        }
        c.refused("ride 30 of 30", () -> Setup.rides(30), x -> x.of(30, 0), -1);
        c.refused("both", Setup::busy, x -> x.of(2, 4), -1);
        Bench gone = Setup.rides(30);
        gone.heat(2);
        c.due("a ride of the heat before", gone.of(0, 0), -1);
        gone.take(1, 1);
        c.due("the one behind the last", gone.of(1, 0), -1);
    }

    // ---- promise 8

    @Edge(in = "Promise 8", says = "RIDER i (from 0 on) of THE LINE.")
    static void lineFromZero(Check c) {
        Bench x = Setup.busy();
        c.due("line(0)", x.line(0), 0);
        c.due("line(1)", x.line(1), 2);
        c.due("line(2)", x.line(2), 3);
        c.unchanged("line(2)", Setup::busy, y -> y.line(2));
        c.due("the last of four", Setup.heatOf(4).line(3), 3);
    }

    @Edge(in = "Promise 8", says = "NONE: there is none such.")
    static void lineNone(Check c) {
        for (int i : new int[] {MIN, -1, 3, 4, 5, MAX}) {
            c.refused("line(" + i + ")", Setup::busy, x -> x.line(i), -4);
        }
        c.refused("the empty line", HeatsEdgesTest::emptyLine, x -> x.line(0), -4);
        c.refused("line(4) of four", () -> Setup.heatOf(4), x -> x.line(4), -4);
        c.refused("line(2) of two", Setup::fresh, x -> x.line(2), -4);
        Bench x = Setup.heatOf(4);
        x.heat(2);
        c.due("riders of a greater heat before", x.line(2), -4);
    }

    // ---- promise 9

    @Edge(in = "Promise 9", says = "Of a RIDER: what = 0 how many RIDES, 1 its best, 2 its second best SCORE, 3 how often it has INTERFERED, 4 TOTAL, 5 PLACE.")
    static void toldAnswersEach(Check c) {
        Bench x = Setup.busy();
        Setup.ride(x, 3, 31);
        int[][] due = {{0, 0, 0, 0, 0, 2}, {1, 105, 0, 0, 105, 1}, {0, 0, 0, 0, 0, 3}, {2, 166, 93, 1, 212, 0}};
        for (int rider = 0; rider < 4; rider++) {
            for (int what = 0; what <= 5; what++) {
                int who = rider;
                int kind = what;
                c.due("told(" + rider + ", " + what + ")", x.told(rider, what), due[rider][what]);
                c.unchanged("told(" + rider + ", " + what + ")", Setup::busy, y -> y.told(who, kind));
            }
        }
        Bench full = Setup.rides(30);
        int[] all = {30, 261, 252, 0, 513, 0};
        for (int what = 0; what <= 5; what++) {
            c.due("30 rides, " + what, full.told(0, what), all[what]);
            c.due("no ride, " + what, full.told(1, what), what == 5 ? 1 : 0);
        }
    }

    @Edge(in = "Promise 9", says = "NUMBER: there is none such, another what.")
    static void toldNumber(Check c) {
        for (int rider : new int[] {MIN, -1, 4, 5, MAX}) {
            c.refused("told(" + rider + ", 0)", Setup::busy, x -> x.told(rider, 0), -1);
        }
        for (int what : new int[] {MIN, -1, 6, 7, MAX}) {
            c.refused("told(0, " + what + ")", Setup::busy, x -> x.told(0, what), -1);
        }
        c.refused("rider 2 of 2", Setup::fresh, x -> x.told(2, 5), -1);
        c.refused("rider 3 of 3", HeatsEdgesTest::emptyLine, x -> x.told(3, 0), -1);
        c.refused("both", Setup::busy, x -> x.told(4, 6), -1);
        Bench x = Setup.busy();
        x.heat(2);
        c.due("a rider of the heat before", x.told(3, 3), -1);
    }

    // ---- promise 10

    @Edge(in = "Promise 10", says = "NEED of a RIDER for PLACE k.")
    static void needAnswers(Check c) {
        int[][] due = {{166, 105, 0, 0}, {62, 0, 0, 0}, {166, 106, 1, 0}, {0, 0, 0, 0}};
        for (int rider = 0; rider < 4; rider++) {
            for (int k = 0; k <= 3; k++) {
                int who = rider;
                int place = k;
                c.due("need(" + rider + ", " + k + ")", Setup.busy().need(rider, k), due[rider][k]);
                c.unchanged("need(" + rider + ", " + k + ")", Setup::busy, x -> x.need(who, place));
            }
        }
        c.due("k is 3 of two riders", new Bench().need(1, 3), 0);
        Bench full = Setup.rides(30);
        full.mark(29, 4, -1);
        full.mark(28, 3, -1);
        full.mark(27, 2, -1);
        for (int ride = 1; ride < 27; ride++) {
            full.mark(ride, ride % 5, 1);
        }
        c.due("3 and 3 are there: one more ride of 6, also behind 30", full.need(1, 0), 6);
    }

    @Edge(in = "Promise 10", says = "NUMBER: there is none such, or k isn't 0 to 3;")
    static void needNumber(Check c) {
        for (int rider : new int[] {MIN, -1, 4, 5, MAX}) {
            c.refused("need(" + rider + ", 0)", Setup::busy, x -> x.need(rider, 0), -1);
        }
        for (int k : new int[] {MIN, -1, 4, 5, MAX}) {
            c.refused("need(0, " + k + ")", Setup::busy, x -> x.need(0, k), -1);
        }
        c.refused("rider 2 of 2", Setup::fresh, x -> x.need(2, 3), -1);
        c.refused("k is 4, and 300 is not enough", () -> Setup.rides(30), x -> x.need(1, 4), -1);
        c.refused("k is -1, where NONE would be told of 0", () -> Setup.rides(30), x -> x.need(1, -1), -1);
        c.refused("both", Setup::busy, x -> x.need(4, 4), -1);
    }

    @Edge(in = "Promise 10", says = "NONE.")
    static void needNone(Check c) {
        c.refused("300 is not enough", () -> Setup.rides(30), x -> x.need(1, 0), -4);
        c.due("for place 1 it is", Setup.rides(30).need(1, 1), 0);
        c.refused("of three, for place 1", HeatsEdgesTest::twoOutOfReach, x -> x.need(2, 1), -4);
        c.refused("of three, for place 0", HeatsEdgesTest::twoOutOfReach, x -> x.need(2, 0), -4);
        c.due("of three, for place 2", twoOutOfReach().need(2, 2), 0);
    }

    private static Bench twoOutOfReach() {
        Bench x = Setup.heatOf(3);
        Setup.ride(x, 0, 100);
        Setup.ride(x, 1, 100);
        return x;
    }
}
