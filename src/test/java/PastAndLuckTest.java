/** Promises 11 to 16: past scores, chances, rides dealt anew. Their refusals are looked at by PastAndLuckEdgesTest. */
public final class PastAndLuckTest {
    private static final Check CHECK = new Check("PastAndLuckTest");

    private static void due(String call, long got, long want) {
        CHECK.due(call, got, want);
    }

    public static void main(String[] args) {
        promise11Past();
        promise12Keep();
        promise12KeepFull();
        promise13Forget();
        promise14Chance();
        promise14ChanceWithoutNeed();
        promise15Ways();
        promise15WaysOfFour();
        promise16Luck();
        promise16LuckTies();
        promise16FaultsStay();
        promise16LuckOfManyRides();
        promise16LuckAgain();
        CHECK.end();
    }

    private static void promise11Past() {
        Bench x = new Bench();
        due("11: past(0)", x.past(0), 1);
        due("11: past(300)", x.past(300), 2);
        due("11: like ones", x.past(300), 3);
        for (int i = 4; i <= 40; i++) {
            due("11: past", x.past(i), i);
        }
        due("11: many", x.many(3), 40);
    }

    private static void promise12Keep() {
        Bench x = new Bench();
        due("12: without rides", x.keep(), 0);
        Setup.ride(x, 0, 0);
        Setup.ride(x, 1, -1);
        Setup.ride(x, 1, 50);
        due("12: a mark of 0 is one", x.keep(), 2);
        due("12: many", x.many(3), 2);
        due("12: the need of 0", x.need(0, 0), 150);
        due("12: one of the kept is enough", x.chance(0, 0, 0), 1);
        due("12: of two", x.chance(0, 0, 1), 2);
        due("12: again", x.keep(), 2);
        due("12: many", x.many(3), 4);
        x.mark(2, 0, 10);
        due("12: what came stays as it came", x.chance(0, 0, 0), 1);
        due("12: half of them", x.chance(0, 0, 1), 2);
        due("12: rides stay", x.many(1), 3);
    }

    private static void promise12KeepFull() {
        Bench x = new Bench();
        Setup.ride(x, 0, 10);
        Setup.ride(x, 1, 20);
        for (int i = 0; i < 38; i++) {
            x.past(0);
        }
        due("12: just 40", x.keep(), 2);
        due("12: many", x.many(3), 40);
        x.mark(0, 0, -1);
        x.mark(1, 0, -1);
        due("12: none comes", x.keep(), 0);
        x.forget();
        for (int i = 0; i < 39; i++) {
            x.past(0);
        }
        x.mark(0, 0, 10);
        due("12: one comes", x.keep(), 1);
    }

    private static void promise13Forget() {
        Bench x = new Bench();
        due("13: empty", x.forget(), 0);
        x.past(300);
        x.past(300);
        due("13: forget", x.forget(), 2);
        due("13: many", x.many(3), 0);
        due("13: again", x.forget(), 0);
        due("13: chance", x.chance(0, 0, 0), 0);
        x.past(0);
        Setup.ride(x, 1, 10);
        due("13: the old ones are gone", x.chance(0, 0, 0), 0);
        due("13: of one", x.chance(0, 0, 1), 1);
    }

    private static void promise14Chance() {
        Bench x = new Bench();
        due("14: without past", x.chance(0, 0, 0), 0);
        due("14: without past", x.chance(0, 0, 1), 1);
        Setup.ride(x, 0, 50);
        due("14: need", x.need(1, 0), 151);
        x.past(150);
        due("14: just below", x.chance(1, 0, 0), 0);
        due("14: 0 / 1", x.chance(1, 0, 1), 1);
        x.past(149);
        due("14: 0 / 1, not 0 / 2", x.chance(1, 0, 1), 1);
        x.past(151);
        due("14: not below", x.chance(1, 0, 0), 1);
        due("14: of three", x.chance(1, 0, 1), 3);
        x.past(300);
        due("14: cleared", x.chance(1, 0, 0), 1);
        due("14: cleared", x.chance(1, 0, 1), 2);
        x.past(200);
        x.past(200);
        due("14: four of six", x.chance(1, 0, 0), 2);
        due("14: four of six", x.chance(1, 0, 1), 3);
        due("14: all of them", x.chance(1, 1, 0), 1);
        due("14: all of them", x.chance(1, 1, 1), 1);
    }

    private static void promise14ChanceWithoutNeed() {
        Bench x = new Bench();
        Setup.ride(x, 0, 100);
        due("14: NONE without past", x.chance(1, 0, 0), -4);
        due("14: k 3 of two", x.chance(1, 3, 1), 1);
    }

    private static void promise15Ways() {
        Bench x = new Bench();
        due("15: without rides", x.ways(), 1);
        for (int i = 0; i < 8; i++) {
            Setup.ride(x, 0, 10);
            due("15: all of one rider", x.ways(), 1);
        }
        Setup.ride(x, 0, 10);
        due("15: nine", x.ways(), -5);
        x.heat(2);
        int[] two = {1, 2, 3, 6, 10, 20, 35, 70};
        for (int i = 0; i < 8; i++) {
            Setup.ride(x, i % 2, 10);
            due("15: by turns", x.ways(), two[i]);
        }
        due("15: again", x.ways(), 70);
    }

    private static void promise15WaysOfFour() {
        Bench x = new Bench();
        x.heat(4);
        int[] due = {1, 2, 6, 24, 60, 180, 630, 2520};
        for (int i = 0; i < 8; i++) {
            Setup.ride(x, 3 - i % 4, 10);
            due("15: of four", x.ways(), due[i]);
        }
    }

    private static void promise16Luck() {
        Bench x = new Bench();
        x.heat(3);
        due("16: without rides", x.luck(0), 1);
        due("16: without rides", x.luck(1), 0);
        Setup.ride(x, 2, 10);
        due("16: one ride, its own", x.luck(2), 1);
        Setup.ride(x, 1, 20);
        due("16: either", x.luck(2), 1);
        due("16: either", x.luck(1), 1);
        due("16: never", x.luck(0), 0);
        Setup.ride(x, 0, 30);
        for (int rider = 0; rider < 3; rider++) {
            due("16: two of six", x.luck(rider), 2);
        }
        Setup.ride(x, 0, 5);
        // Of 12 ways 0 has the 30 in 6; with 10 and 20 it has 30 too, but the one with the 30 has the greater best.
        due("16: two rides", x.luck(0), 6);
        due("16: one ride", x.luck(1), 3);
        due("16: one ride", x.luck(2), 3);
        due("16: ways", x.ways(), 12);
        x.heat(4);
        for (int i = 0; i < 8; i++) {
            Setup.ride(x, i % 4, 10 + i);
        }
        int all = 0;
        for (int rider = 0; rider < 4; rider++) {
            all += x.luck(rider);
        }
        due("16: just one is first in each way", all, 2520);
    }

    private static void promise16LuckTies() {
        Bench x = new Bench();
        for (int i = 0; i < 8; i++) {
            Setup.ride(x, i % 2, 50);
        }
        due("16: like rides are dealt as rides", x.luck(0), 70);
        due("16: the lesser number is first", x.luck(1), 0);
        x.heat(2);
        Setup.ride(x, 0, 50);
        Setup.ride(x, 1, 20);
        Setup.ride(x, 1, 30);
        due("16: 50, or 30, or 20 against the other two", x.luck(0), 1);
        due("16: the greater best of like totals", x.luck(1), 2);
    }

    private static void promise16FaultsStay() {
        Bench x = new Bench();
        x.take(0, 5);
        x.take(1, 5);
        x.mark(0, 0, 10);
        x.mark(1, 0, 20);
        x.back(0);
        x.back(1);
        Setup.ride(x, 1, 30);
        Setup.ride(x, 1, 40);
        // Rider 1 has interfered once: with 10, 20, 30 it has 30 + 20 / 2, a tie with the 40 of rider 0.
        due("16: ways", x.ways(), 4);
        due("16: faults stay with riders", x.luck(0), 1);
        due("16: faults stay with riders", x.luck(1), 3);
        x.take(0, 50);
        x.take(1, 50);
        due("16: twice", x.told(1, 3), 2);
        due("16: ways", x.ways(), 15);
        due("16: faults stay with riders", x.luck(0), luckOfTwoAgainstHalf());
        due("16: all", x.luck(0) + x.luck(1), 15);
    }

    /** Rider 0 has two of the rides 10, 20, 30, 40, 0, 0; rider 1 half of the best of the others. */
    private static int luckOfTwoAgainstHalf() {
        int[] marks = {30, 60, 90, 120, 0, 0};
        int wins = 0;
        for (int a = 0; a < 6; a++) {
            for (int b = a + 1; b < 6; b++) {
                int best = 0;
                for (int i = 0; i < 6; i++) {
                    best = i == a || i == b ? best : Math.max(best, marks[i]);
                }
                int own = Math.max(marks[a], marks[b]);
                int total = marks[a] + marks[b];
                wins += total > best / 2 || (total == best / 2 && own >= best) ? 1 : 0;
            }
        }
        return wins;
    }

    private static void promise16LuckOfManyRides() {
        Bench x = new Bench();
        for (int i = 0; i < 30; i++) {
            Setup.ride(x, 0, i);
        }
        due("16: thirty", x.luck(1), -5);
        x.heat(3);
        due("16: rider 2 of three", x.luck(2), 0);
        due("16: rider 3 of three", x.luck(3), -1);
    }

    private static void promise16LuckAgain() {
        Bench x = new Bench();
        x.heat(4);
        for (int i = 0; i < 8; i++) {
            Setup.ride(x, (i * 3) % 4, 90 - 7 * i);
        }
        int luck = x.luck(1);
        due("16: again", x.luck(1), luck);
        due("16: others between", x.need(2, 0) + x.luck(1) - x.need(2, 0), luck);
    }
}
