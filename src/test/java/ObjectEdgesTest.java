import java.util.ArrayList;
import java.util.List;
import java.util.function.Supplier;
import java.util.function.ToLongFunction;

/** A new object, its 512 calls, refusals and constants, and promise 24. */
public final class ObjectEdgesTest {
    private static final int MAX = Integer.MAX_VALUE;
    private static final int MIN = Integer.MIN_VALUE;

    public static void main(String[] args) throws Exception {
        Edges.run(ObjectEdgesTest.class);
    }

    // ---- 512 calls

    /** An object that has been asked until just so many calls are left to it. */
    private static Bench withCallsLeft(Supplier<Bench> state, int left) {
        Bench x = state.get();
        while (x.calls() < Bench.MOST_CALLS - left) {
            x.many(0);
        }
        return x;
    }

    private static void last(Check c, String call, ToLongFunction<Bench> ask, long want) {
        c.due("the last call, " + call, ask.applyAsLong(withCallsLeft(Setup::busy, 1)), want);
    }

    @Edge(in = "What it is", says = "An object is used for at most 512 calls after it has been made;")
    static void theLastCallIsAnsweredToo(Check c) {
        last(c, "heat(3)", x -> x.heat(3), 3);
        last(c, "take(2, 5)", x -> x.take(2, 5), 2);
        last(c, "back(1)", x -> x.back(1), 4);
        last(c, "letGo()", Bench::letGo, 1);
        last(c, "mark(0, 0, 7)", x -> x.mark(0, 0, 7), 50);
        last(c, "of(0, 3)", x -> x.of(0, 3), 166);
        last(c, "line(2)", x -> x.line(2), 3);
        last(c, "told(3, 3)", x -> x.told(3, 3), 1);
        last(c, "need(2, 0)", x -> x.need(2, 0), 166);
        last(c, "past(0)", x -> x.past(0), 4);
        last(c, "keep()", Bench::keep, 2);
        last(c, "forget()", Bench::forget, 3);
        last(c, "chance(2, 0, 1)", x -> x.chance(2, 0, 1), 3);
        last(c, "ways()", Bench::ways, 2);
        last(c, "luck(3)", x -> x.luck(3), 1);
        last(c, "days(9)", x -> x.days(9), 9);
        last(c, "span(0, 1, 2)", x -> x.span(0, 1, 2), 1);
        last(c, "was(0, 1)", x -> x.was(0, 1), 6);
        last(c, "worth(3, 1, 0)", x -> x.worth(3, 1, 0), 4);
        last(c, "call(3, 1, 0)", x -> x.call(3, 1, 0), 1);
        last(c, "run(4, 1)", x -> x.run(4, 1), 8);
        last(c, "behind(4)", x -> x.behind(4), -4);
        last(c, "many(1)", x -> x.many(1), 2);
    }

    @Edge(in = "What it is", says = "An object is used for at most 512 calls after it has been made;")
    static void allCallsOfOneKind(Check c) {
        Bench heats = new Bench();
        Bench days = new Bench();
        Bench forgets = new Bench();
        Bench lucks = eightRides();
        Bench marks = Setup.rides(1);
        for (int i = 0; i < Bench.MOST_CALLS; i++) {
            c.due("heat", heats.heat(2 + i % 3), 2 + i % 3);
            c.due("days", days.days(1 + i % 9), 1 + i % 9);
            c.due("forget", forgets.forget(), 0);
        }
        marks.mark(0, 4, 0);
        int before = 0;
        for (int i = marks.calls(); i < Bench.MOST_CALLS; i++) {
            c.due("mark", marks.mark(0, 4, i % 101), before);
            before = i % 101;
        }
        for (int i = lucks.calls(); i < Bench.MOST_CALLS; i++) {
            c.due("luck", lucks.luck(i % 4), 630);
        }
    }

    private static Bench eightRides() {
        Bench x = Setup.heatOf(4);
        for (int i = 0; i < 8; i++) {
            Setup.ride(x, i % 4, 10 + 7 * i);
        }
        return x;
    }

    @Edge(in = "What it is", says = "An object is used for at most 512 calls after it has been made;")
    static void heatsOfThirtyRidesUntilTheEnd(Check c) {
        Bench x = new Bench();
        int ride = 0;
        while (x.calls() + 3 <= Bench.MOST_CALLS) {
            if (ride == 30) {
                c.due("heat", x.heat(2), 2);
                ride = 0;
            }
            c.due("take", x.take(1, ride), ride);
            c.due("back", x.back(1), 2);
            ride++;
        }
    }

    // ---- refusals

    /** Every refusal that the document names, each as a call that busy() refuses, with what it answers. */
    private static List<ToLongFunction<Bench>> refusedByBusy() {
        List<ToLongFunction<Bench>> calls = new ArrayList<>();
        calls.add(x -> x.heat(5) + 1);
        calls.add(x -> x.take(4, 5) + 1);
        calls.add(x -> x.take(0, 100) + 1);
        calls.add(x -> x.take(1, 6) + 3);
        calls.add(x -> x.back(4) + 1);
        calls.add(x -> x.back(0) + 3);
        calls.add(x -> x.mark(2, 0, 9) + 9);
        calls.add(x -> x.mark(0, 5, 9) + 9);
        calls.add(x -> x.mark(0, 0, 101) + 9);
        calls.add(x -> x.of(2, 0) + 1);
        calls.add(x -> x.of(0, 4) + 1);
        calls.add(x -> x.line(3) + 4);
        calls.add(x -> x.told(4, 0) + 1);
        calls.add(x -> x.told(0, 6) + 1);
        calls.add(x -> x.need(4, 0) + 1);
        calls.add(x -> x.need(0, 4) + 1);
        calls.add(x -> x.past(301) + 1);
        calls.add(x -> x.chance(4, 0, 0) + 1);
        calls.add(x -> x.chance(0, 0, 2) + 1);
        calls.add(x -> x.luck(4) + 1);
        calls.add(x -> x.days(10) + 1);
        calls.add(x -> x.span(4, 1, 2) + 1);
        calls.add(x -> x.span(0, 2, 1) + 1);
        calls.add(x -> x.was(4, 1) + 9);
        calls.add(x -> x.was(1, 8) + 9);
        calls.add(x -> x.worth(5, 0, 0) + 9);
        calls.add(x -> x.worth(0, 5, 0) + 4);
        calls.add(x -> x.call(4, 0, 0) + 1);
        calls.add(x -> x.call(0, 5, 0) + 4);
        calls.add(x -> x.run(5, 0) + 1);
        calls.add(x -> x.run(0, 3) + 1);
        calls.add(x -> x.behind(5) + 1);
        calls.add(x -> x.behind(1) + 4);
        calls.add(x -> x.many(7) + 1);
        return calls;
    }

    @Edge(in = "Terms", says = "A call that is refused (answers below 0, where not told otherwise) changes nothing.")
    static void refusedCallsChangeNothing(Check c) {
        List<ToLongFunction<Bench>> calls = refusedByBusy();
        ToLongFunction<Bench> all = x -> {
            long rest = 0;
            for (ToLongFunction<Bench> call : calls) {
                rest += Math.abs(call.applyAsLong(x));
            }
            return rest;
        };
        for (int i = 0; i < calls.size(); i++) {
            c.due("refusal " + i, calls.get(i).applyAsLong(Setup.busy()), 0);
        }
        c.due("all of them, one behind another", all.applyAsLong(Setup.busy()), 0);
        c.unchanged("all of them, one behind another", Setup::busy, all);
        c.refused("FULL of take", () -> Setup.rides(30), x -> x.take(1, 29), -2);
        c.refused("FULL of past", () -> Setup.past(40), x -> x.past(0), -2);
        c.refused("FULL of keep", () -> pastAndRide(40), Bench::keep, -2);
        c.refused("LARGE of ways", () -> Setup.rides(9), Bench::ways, -5);
        c.refused("LARGE of luck", () -> Setup.rides(9), x -> x.luck(0), -5);
        c.refused("NONE of need", () -> Setup.rides(30), x -> x.need(1, 0), -4);
        c.refused("NONE of chance", () -> Setup.rides(30), x -> x.chance(1, 0, 0), -4);
    }

    private static Bench pastAndRide(int past) {
        Bench x = Setup.past(past);
        Setup.ride(x, 0, 50);
        return x;
    }

    @Edge(in = "Terms", says = "A call that is refused (answers below 0, where not told otherwise) changes nothing.")
    static void whatIsToldOtherwise(Check c) {
        Bench x = Setup.busy();
        c.due("-1 of mark() is no refusal", x.mark(0, 2, 40), -1);
        c.due("the mark came", x.of(0, 2), 3);
        c.due("its number", x.mark(0, 2, 40), 40);
        c.due("-1 of was() is no refusal", x.was(2, 9), -1);
        c.due("the day is known", x.many(5), 3);
        c.due("its number", x.was(2, 9), 9);
    }

    @Edge(in = "Terms", says = "Of several refusals that a call names the first one named is answered.")
    static void theFirstRefusalNamed(Check c) {
        c.refused("take: NUMBER, STATE", Setup::busy, x -> x.take(1, 100), -1);
        c.refused("take: NUMBER, FULL", () -> Setup.rides(30), x -> x.take(1, 100), -1);
        c.refused("take: NUMBER, STATE, FULL", () -> Setup.rides(30), x -> x.take(0, 100), -1);
        c.refused("take: STATE, FULL", () -> Setup.rides(30), x -> x.take(0, 29), -3);
        c.refused("need: NUMBER, NONE", () -> Setup.rides(30), x -> x.need(1, -1), -1);
        c.refused("past: NUMBER, FULL", () -> Setup.past(40), x -> x.past(301), -1);
        c.refused("chance: NUMBER, NONE", () -> Setup.rides(30), x -> x.chance(1, 0, 2), -1);
        c.refused("luck: NUMBER, LARGE", () -> Setup.rides(9), x -> x.luck(2), -1);
        c.refused("worth: NUMBER, NONE", Setup::busy, x -> x.worth(4, 1, 2), -9);
        c.refused("call: NUMBER, NONE", Setup::busy, x -> x.call(3, 2, 10), -1);
        c.refused("behind: NUMBER, NONE", Setup::busy, x -> x.behind(5), -1);
    }

    // ---- constants

    @Edge(in = "Terms", says = {
        "`NUMBER = -1`: A number is none, or none that may be.",
        "`FULL = -2`: There are as many as may be.",
        "`STATE = -3`: A RIDER is, or isn't, in THE LINE.",
        "`NONE = -4`: There is none.",
        "`LARGE = -5`: There are more RIDES than 8."})
    static void constants(Check c) {
        c.due("NUMBER", HeatBench.NUMBER, -1);
        c.due("FULL", HeatBench.FULL, -2);
        c.due("STATE", HeatBench.STATE, -3);
        c.due("NONE", HeatBench.NONE, -4);
        c.due("LARGE", HeatBench.LARGE, -5);
        c.due("NUMBER is answered", new Bench().heat(1), HeatBench.NUMBER);
        c.due("FULL is answered", Setup.past(40).past(0), HeatBench.FULL);
        c.due("STATE is answered", new Bench().back(0), HeatBench.STATE);
        c.due("NONE is answered", new Bench().line(2), HeatBench.NONE);
        c.due("LARGE is answered", Setup.rides(9).ways(), HeatBench.LARGE);
    }

    // ---- promise 1

    @Edge(in = "Promise 1", says = "A HEAT of 2 RIDERS, without RIDES;")
    static void newHeat(Check c) {
        Bench x = new Bench();
        c.due("riders", x.many(0), 2);
        c.due("rides", x.many(1), 0);
        c.due("in the line", x.many(2), 2);
        c.due("interferences", x.many(6), 0);
        c.due("line(0)", x.line(0), 0);
        c.due("line(1)", x.line(1), 1);
        c.due("line(2)", x.line(2), -4);
        c.due("no ride 0", x.of(0, 0), -1);
        c.due("no wave to let go", x.letGo(), 0);
        for (int rider = 0; rider < 2; rider++) {
            for (int what = 0; what <= 4; what++) {
                c.due("told", x.told(rider, what), 0);
            }
            c.due("place", x.told(rider, 5), rider);
        }
        c.due("no rider 2", x.told(2, 0), -1);
        c.due("one way", x.ways(), 1);
        c.due("as heat(2)", x.heat(2), 2);
    }

    @Edge(in = "Promise 1", says = "PAST is empty;")
    static void newPast(Check c) {
        c.due("many(3)", new Bench().many(3), 0);
        c.due("forget()", new Bench().forget(), 0);
        c.due("the first one", new Bench().past(0), 1);
        c.due("no chance", new Bench().chance(0, 0, 0), 0);
        c.due("no chance", new Bench().chance(0, 0, 1), 1);
    }

    @Edge(in = "Promise 1", says = "a WAIT of 5 DAYS, none known.")
    static void newWait(Check c) {
        Bench x = new Bench();
        c.due("days", x.many(4), 5);
        c.due("known", x.many(5), 0);
        for (int day = 0; day < 5; day++) {
            c.due("unknown", x.was(day, -1), -1);
            c.due("from 0", x.was(day, 0), -1);
            c.due("to 9", x.was(day, 9), 0);
        }
        c.due("no day 5", x.was(5, -1), -9);
        c.due("no run", new Bench().run(5, 2), 0);
    }

    @Edge(in = "Promise 1", says = {"A HEAT of 2 RIDERS, without RIDES;", "PAST is empty;", "a WAIT of 5 DAYS, none known."})
    static void objectsAreApart(Check c) {
        Bench first = new Bench();
        Bench second = new Bench();
        first.take(1, 5);
        first.take(0, 5);
        first.mark(0, 0, 50);
        first.keep();
        first.was(0, 9);
        first.span(1, 3, 3);
        int[] due = {2, 0, 2, 0, 5, 0, 0};
        for (int what = 0; what <= 6; what++) {
            c.due("another object, many(" + what + ")", second.many(what), due[what]);
        }
        c.due("another object's span", second.was(1, 9), -1);
        c.due("another object's wave", second.letGo(), 0);
    }

    // ---- promise 24

    private static void many(Check c, String when, Bench x, int... due) {
        for (int what = 0; what < due.length; what++) {
            c.due(when + ": many(" + what + ")", x.many(what), due[what]);
        }
    }

    @Edge(in = "Promise 24", says = "How many: what = 0 RIDERS, 1 RIDES, 2 who are in THE LINE, 3 PAST ones, 4 DAYS, 5 that are known, 6 INTERFERENCES of all.")
    static void manyAnswersEach(Check c) {
        many(c, "new", new Bench(), 2, 0, 2, 0, 5, 0, 0);
        many(c, "busy", Setup.busy(), 4, 2, 3, 3, 4, 2, 1);
        many(c, "30 rides", Setup.rides(30), 2, 30, 1, 0, 5, 0, 0);
        many(c, "40 past ones", Setup.past(40), 2, 0, 2, 40, 5, 0, 0);
        many(c, "nine days known", Setup.waitOf(0, 0, 0, 0, 0, 0, 0, 0, 0), 2, 0, 2, 0, 9, 9, 0);
        many(c, "one day known", Setup.waitOf(0), 2, 0, 2, 0, 1, 1, 0);
        Bench all = Setup.heatOf(4);
        for (int rider = 3; rider >= 0; rider--) {
            all.take(rider, 1);
        }
        many(c, "nobody in the line", all, 4, 4, 0, 0, 5, 0, 3);
        Bench most = new Bench();
        for (int wave = 0; wave < 15; wave++) {
            most.take(0, wave);
            most.take(1, wave);
            most.back(0);
            most.back(1);
        }
        many(c, "an interference on each of 15 waves", most, 2, 30, 2, 0, 5, 0, 15);
        for (int what = 0; what <= 6; what++) {
            int kind = what;
            c.unchanged("many(" + what + ")", Setup::busy, x -> x.many(kind));
        }
    }

    @Edge(in = "Promise 24", says = "NUMBER: another what.")
    static void manyNumber(Check c) {
        for (int what : new int[] {MIN, -2, -1, 7, 8, MAX}) {
            c.refused("many(" + what + ")", Setup::busy, x -> x.many(what), -1);
            c.refused("new, many(" + what + ")", Setup::fresh, x -> x.many(what), -1);
        }
    }
}
