/** Promises 1 to 10: a new object, and heats. Their refusals are looked at by HeatsEdgesTest. */
public final class HeatsTest {
    private static final Check CHECK = new Check("HeatsTest");

    private static void due(String call, long got, long want) {
        CHECK.due(call, got, want);
    }

    public static void main(String[] args) {
        promise1NewObject();
        promise2Heat();
        promise2HeatKeepsPastAndDays();
        promise3Take();
        promise3TakeFull();
        promise3RightOfWay();
        promise3WhoWasNotInLine();
        promise3OnceForAWave();
        promise3BackButOnTheWave();
        promise3RideAlone();
        promise3SameNumberAfterLettingGo();
        promise4Back();
        promise5LetGo();
        promise6Mark();
        promise7Of();
        promise7ScoreOfLikeMarks();
        promise8Line();
        promise9Told();
        promise9Halves();
        promise9Ties();
        promise10Need();
        promise10NeedWithFaults();
        promise10NeedTies();
        CHECK.end();
    }

    private static void promise1NewObject() {
        Bench x = new Bench();
        due("1: riders", x.many(0), 2);
        due("1: rides", x.many(1), 0);
        due("1: in line", x.many(2), 2);
        due("1: line(0)", x.line(0), 0);
        due("1: line(1)", x.line(1), 1);
        due("1: line(2)", x.line(2), -4);
        due("1: past", x.many(3), 0);
        due("1: days", x.many(4), 5);
        due("1: known", x.many(5), 0);
        due("1: interferences", x.many(6), 0);
        for (int day = 0; day < 5; day++) {
            due("1: was", x.was(day, 0), -1);
            due("1: was", x.was(day, 9), 0);
        }
        Bench other = new Bench();
        due("1: objects are apart", other.many(5), 0);
    }

    private static void promise2Heat() {
        Bench x = new Bench();
        for (int n = 2; n <= 4; n++) {
            due("2: heat", x.heat(n), n);
            due("2: riders", x.many(0), n);
            due("2: in line", x.many(2), n);
            for (int i = 0; i < n; i++) {
                due("2: line", x.line(i), i);
            }
            due("2: line ends", x.line(n), -4);
            x.take(1, 7);
            x.take(0, 7);
            x.mark(0, 0, 50);
            due("2: interferences", x.many(6), 1);
        }
        due("2: heat(2)", x.heat(2), 2);
        due("2: no rides", x.many(1), 0);
        due("2: no interferences", x.many(6), 0);
        due("2: none of rider 1", x.told(1, 3), 0);
        due("2: no such ride", x.of(0, 2), -1);
        x.take(0, 7);
        due("2: marks are gone", x.of(0, 2), 0);
        due("2: scores are gone", x.of(0, 3), 0);
        x.heat(2);
        x.take(1, 7);
        due("2: the wave of the heat before is let go", x.told(1, 3), 0);
        due("2: nobody is over another", x.many(6), 0);
    }

    private static void promise2HeatKeepsPastAndDays() {
        Bench x = new Bench();
        x.past(100);
        x.days(3);
        x.was(1, 4);
        x.heat(3);
        due("2: past stays", x.many(3), 1);
        due("2: days stay", x.many(4), 3);
        due("2: known stay", x.many(5), 1);
    }

    private static void promise3Take() {
        Bench x = Setup.heatOf(3);
        due("3: take(1, 0)", x.take(1, 0), 0);
        due("3: take(2, 99)", x.take(2, 99), 1);
        due("3: in line", x.many(2), 1);
        due("3: line(0)", x.line(0), 0);
        due("3: rider", x.of(1, 0), 2);
        due("3: wave", x.of(1, 1), 99);
        due("3: the wave isn't let go yet", x.letGo(), 1);
    }

    private static void promise3TakeFull() {
        Bench x = new Bench();
        for (int i = 0; i < 30; i++) {
            due("3: take", x.take(1, i), i);
            if (i < 29) {
                x.back(1);
            }
        }
        due("3: the last ride", x.of(29, 1), 29);
        due("3: no ride 30", x.of(30, 1), -1);
        due("3: still in line", x.line(0), 0);
        due("3: the last wave isn't let go yet", x.letGo(), 1);
        x.heat(2);
        due("3: room again", x.take(0, 0), 0);
    }

    private static void promise3RightOfWay() {
        Bench x = Setup.heatOf(3);
        x.take(0, 4);
        x.take(2, 4);
        due("3: first in line has the right", x.told(0, 3), 0);
        due("3: the one behind has interfered", x.told(2, 3), 1);
        x.take(1, 4);
        due("3: between them", x.told(1, 3), 1);
        due("3: once", x.told(2, 3), 1);
        due("3: the right stays", x.told(0, 3), 0);
        x = Setup.heatOf(4);
        x.take(3, 4);
        due("3: alone", x.told(3, 3), 0);
        x.take(2, 4);
        x.take(1, 4);
        x.take(0, 4);
        for (int rider = 1; rider < 4; rider++) {
            due("3: the right goes to the front", x.told(rider, 3), 1);
        }
        due("3: the front one", x.told(0, 3), 0);
        due("3: of all", x.many(6), 3);
        x = Setup.heatOf(2);
        x.take(0, 1);
        x.back(0);
        x.take(0, 2);
        x.take(1, 2);
        due("3: the line's order, not numbers: 0", x.told(0, 3), 1);
        due("3: the line's order, not numbers: 1", x.told(1, 3), 0);
        due("3: of all", x.many(6), 1);
        x.heat(2);
        due("2: no interferences of rider 0 either", x.told(0, 3), 0);
    }

    private static void promise3WhoWasNotInLine() {
        Bench x = Setup.heatOf(4);
        x.take(0, 1);
        x.take(1, 2);
        x.take(3, 3);
        x.back(1);
        x.back(0);
        x.take(1, 3);
        due("3: 3 was in the line, 1 wasn't", x.told(1, 3), 1);
        due("3: 3 has the right", x.told(3, 3), 0);
        x.take(0, 3);
        due("3: 0 wasn't either", x.told(0, 3), 1);
        due("3: 3 keeps the right", x.told(3, 3), 0);
        x.back(3);
        x.take(2, 4);
        x.back(1);
        x.back(0);
        x.take(0, 4);
        due("3: line was 2, 3; 0 is behind", x.told(0, 3), 2);
        x.take(3, 4);
        due("3: 3 stood second", x.told(3, 3), 1);
        due("3: 2 stood first", x.told(2, 3), 0);
        x.take(1, 4);
        due("3: 1 wasn't there", x.told(1, 3), 2);
        x = Setup.heatOf(2);
        x.take(0, 1);
        x.take(1, 2);
        x.back(0);
        x.take(0, 2);
        due("3: the first one counts as in the line it took the wave from", x.told(0, 3), 1);
        due("3: so it has the right", x.told(1, 3), 0);
    }

    private static void promise3OnceForAWave() {
        Bench x = new Bench();
        x.take(0, 5);
        x.take(1, 5);
        x.back(1);
        x.take(1, 5);
        due("3: once for a wave", x.told(1, 3), 1);
        x.back(0);
        x.take(0, 5);
        due("3: the first stays first", x.told(0, 3), 0);
        x.back(0);
        x.back(1);
        x.take(0, 6);
        x.take(1, 6);
        due("3: once more for another wave", x.told(1, 3), 2);
        due("3: rides", x.told(1, 0), 3);
    }

    private static void promise3BackButOnTheWave() {
        Bench x = new Bench();
        x.take(1, 5);
        x.back(1);
        x.take(0, 5);
        due("3: the wave wasn't let go, so 1 rides it still", x.told(1, 3), 1);
        due("3: 0 stood first", x.told(0, 3), 0);
    }

    private static void promise3RideAlone() {
        Bench x = new Bench();
        x.take(1, 5);
        x.back(1);
        x.take(1, 5);
        due("3: nobody is over itself", x.many(6), 0);
        x.take(0, 6);
        x.back(0);
        x.take(0, 5);
        due("3: a ride on another wave lets go", x.many(6), 0);
    }

    private static void promise3SameNumberAfterLettingGo() {
        Bench x = new Bench();
        x.take(0, 5);
        x.take(1, 5);
        x.letGo();
        x.back(1);
        x.back(0);
        x.take(0, 5);
        due("3: it was let go", x.told(0, 3), 0);
        x.take(1, 5);
        due("3: now 1 stood first", x.told(1, 3), 1);
        due("3: and 0 has interfered", x.told(0, 3), 1);
        x.letGo();
        x.back(0);
        x.back(1);
        x.take(1, 5);
        x.take(0, 5);
        due("3: a wave ridden anew counts anew", x.told(1, 3), 2);
    }

    private static void promise4Back() {
        Bench x = Setup.heatOf(4);
        x.take(0, 1);
        x.take(2, 2);
        due("4: back(2)", x.back(2), 3);
        due("4: back(0)", x.back(0), 4);
        int[] line = {1, 3, 2, 0};
        for (int i = 0; i < 4; i++) {
            due("4: line", x.line(i), line[i]);
        }
        x.heat(2);
        due("4: no such rider", x.back(2), -1);
        due("4: all wait as a heat begins", x.back(1), -3);
    }

    private static void promise5LetGo() {
        Bench x = new Bench();
        due("5: without rides", x.letGo(), 0);
        x.take(0, 5);
        due("5: letGo", x.letGo(), 1);
        due("5: again", x.letGo(), 0);
        x.take(1, 5);
        due("5: nobody is over another", x.many(6), 0);
        due("5: the same number, a new ride", x.letGo(), 1);
        x.back(0);
        x.take(0, 6);
        x.heat(2);
        due("5: let go as a heat begins", x.letGo(), 0);
    }

    private static void promise6Mark() {
        Bench x = new Bench();
        due("6: no ride", x.mark(0, 0, 50), -9);
        x.take(0, 1);
        due("6: first", x.mark(0, 4, 0), -1);
        due("6: 0 is a mark", x.of(0, 2), 1);
        due("6: then", x.mark(0, 4, 100), 0);
        due("6: away", x.mark(0, 4, -1), 100);
        due("6: none", x.of(0, 2), 0);
        due("6: away again", x.mark(0, 4, -1), -1);
        due("6: judge 0", x.mark(0, 0, 33), -1);
        x.take(1, 2);
        due("6: another ride", x.mark(1, 0, 44), -1);
        due("6: each ride has its own", x.of(0, 3), 99);
        due("6: so has this", x.of(1, 3), 132);
    }

    private static void promise7Of() {
        Bench x = Setup.heatOf(3);
        x.take(2, 98);
        due("7: rider", x.of(0, 0), 2);
        due("7: wave", x.of(0, 1), 98);
        due("7: marks", x.of(0, 2), 0);
        due("7: no marks, no score", x.of(0, 3), 0);
        int[] marks = {20, 91, 35, 60, 40};
        int[] scores = {60, 166, 146, 142, 135};
        for (int judge = 0; judge < 5; judge++) {
            x.mark(0, judge, marks[judge]);
            due("7: marks", x.of(0, 2), judge + 1);
            due("7: score", x.of(0, 3), scores[judge]);
        }
        due("7: what 4", x.of(0, 4), -1);
        due("7: what -1", x.of(0, -1), -1);
        due("7: ride 1", x.of(1, 0), -1);
        due("7: ride -1", x.of(-1, 0), -1);
        due("7: ride 30", x.of(30, 0), -1);
        due("7: max", x.of(Integer.MAX_VALUE, Integer.MAX_VALUE), -1);
        due("7: min", x.of(Integer.MIN_VALUE, Integer.MIN_VALUE), -1);
    }

    private static void promise7ScoreOfLikeMarks() {
        Bench x = new Bench();
        x.take(0, 1);
        for (int judge = 0; judge < 5; judge++) {
            x.mark(0, judge, 100);
        }
        due("7: only one of the greatest goes", x.of(0, 3), 300);
        x.mark(0, 0, 0);
        x.mark(0, 1, 0);
        due("7: only one of the least goes", x.of(0, 3), 200);
        x.mark(0, 2, -1);
        due("7: two of four", x.of(0, 3), 150);
        x.mark(0, 3, -1);
        due("7: three stay", x.of(0, 3), 100);
        x.mark(0, 1, 1);
        due("7: the rest away", x.of(0, 3), 101);
        x.mark(0, 0, -1);
        due("7: of two", x.of(0, 3), 151);
        for (int judge = 0; judge < 5; judge++) {
            x.mark(0, judge, 0);
        }
        due("7: five times nothing", x.of(0, 3), 0);
        x.mark(0, 0, -1);
        due("7: four times nothing", x.of(0, 3), 0);
    }

    private static void promise8Line() {
        Bench x = Setup.heatOf(3);
        x.take(0, 1);
        due("8: line(0)", x.line(0), 1);
        due("8: line(1)", x.line(1), 2);
        due("8: line(2)", x.line(2), -4);
        due("8: line(3)", x.line(3), -4);
        due("8: line(4)", x.line(4), -4);
        due("8: line(-1)", x.line(-1), -4);
        due("8: line(max)", x.line(Integer.MAX_VALUE), -4);
        due("8: line(min)", x.line(Integer.MIN_VALUE), -4);
        x.take(2, 2);
        x.take(1, 3);
        due("8: empty", x.line(0), -4);
    }

    private static void promise9Told() {
        Bench x = Setup.heatOf(3);
        for (int what = 0; what < 5; what++) {
            due("9: at first", x.told(1, what), 0);
        }
        due("9: place 0", x.told(0, 5), 0);
        due("9: place 1", x.told(1, 5), 1);
        due("9: place 2", x.told(2, 5), 2);
        Setup.ride(x, 1, 30);
        due("9: rides", x.told(1, 0), 1);
        due("9: best", x.told(1, 1), 90);
        due("9: no second", x.told(1, 2), 0);
        due("9: total", x.told(1, 4), 90);
        Setup.ride(x, 1, 10);
        Setup.ride(x, 1, 20);
        Setup.ride(x, 2, 30);
        Setup.ride(x, 2, 30);
        due("9: rides", x.told(1, 0), 3);
        due("9: second", x.told(1, 2), 60);
        due("9: total", x.told(1, 4), 150);
        due("9: like ones are best and second", x.told(2, 2), 90);
        due("9: total of 2", x.told(2, 4), 180);
        due("9: place of 2", x.told(2, 5), 0);
        due("9: place of 1", x.told(1, 5), 1);
        due("9: place of 0", x.told(0, 5), 2);
        due("9: interfered", x.told(1, 3), 0);
    }

    private static void promise9Halves() {
        Bench x = new Bench();
        x.take(0, 5);
        x.take(1, 5);
        x.mark(1, 0, 37);
        due("9: interfered once, one ride", x.told(1, 4), 111);
        x.back(1);
        x.take(1, 6);
        x.mark(2, 0, 33);
        due("9: half of the second, the rest away", x.told(1, 4), 111 + 49);
        due("9: the second itself is whole", x.told(1, 2), 99);
        x.back(0);
        x.take(0, 7);
        x.back(1);
        x.take(1, 7);
        due("9: twice", x.told(1, 3), 2);
        due("9: half of the best, the rest away", x.told(1, 4), 55);
        due("9: the best itself is whole", x.told(1, 1), 111);
        x.back(0);
        x.take(0, 8);
        x.back(1);
        x.take(1, 8);
        due("9: three times", x.told(1, 3), 3);
        due("9: no less for it", x.told(1, 4), 55);
    }

    private static void promise9Ties() {
        Bench x = Setup.heatOf(4);
        Setup.ride(x, 3, 50);
        Setup.ride(x, 3, 10);
        Setup.ride(x, 2, 30);
        Setup.ride(x, 2, 30);
        Setup.ride(x, 1, 50);
        Setup.ride(x, 1, 10);
        Setup.ride(x, 0, 20);
        Setup.ride(x, 0, 40);
        due("9: the greater best, then the lesser number", x.told(1, 5), 0);
        due("9: then this", x.told(3, 5), 1);
        due("9: then 40 and 20", x.told(0, 5), 2);
        due("9: then 30 and 30", x.told(2, 5), 3);
    }

    private static void promise10Need() {
        Bench x = Setup.heatOf(3);
        due("10: first already", x.need(0, 0), 0);
        due("10: 1 needs a score", x.need(1, 0), 1);
        due("10: 1 is second", x.need(1, 1), 0);
        due("10: any place is good", x.need(2, 3), 0);
        Setup.ride(x, 0, 100);
        due("10: just the greatest is not enough of a tie", x.need(1, 0), -4);
        Setup.ride(x, 1, 100);
        due("10: 300 and one more", x.need(1, 0), 1);
        Setup.ride(x, 0, 100);
        due("10: 600 is out of reach", x.need(1, 0), -4);
        due("10: second is there", x.need(2, 1), -4);
        due("10: third", x.need(2, 2), 0);
        due("10: first", x.need(0, 0), 0);
        x.heat(2);
        due("10: k 3 of two riders", x.need(1, 3), 0);
        for (int i = 0; i < 30; i++) {
            x.take(0, i);
            x.back(0);
        }
        x.mark(0, 0, 10);
        due("10: one more, also if there are 30", x.need(1, 0), 31);
    }

    private static void promise10NeedWithFaults() {
        Bench x = new Bench();
        x.take(0, 5);
        x.take(1, 5);
        x.mark(0, 0, 60);
        x.mark(1, 0, 50);
        due("10: 150 + 60 / 2 is a tie of 180, but best 150", x.need(1, 0), 62);
        x.back(0);
        x.back(1);
        x.take(0, 6);
        x.take(1, 6);
        due("10: twice: half of more than 360", x.need(1, 0), -4);
        x.mark(0, 0, 45);
        due("10: half of 270 is 135, with a greater best", x.need(1, 0), 270);
        x.mark(0, 0, 50);
        due("10: half of 300 is 150, with a greater best", x.need(1, 0), 300);
        x.mark(0, 0, 51);
        due("10: 153 is too much", x.need(1, 0), -4);
    }

    private static void promise10NeedTies() {
        Bench x = new Bench();
        Setup.ride(x, 0, 50);
        Setup.ride(x, 0, 20);
        Setup.ride(x, 1, 40);
        due("10: 210 with a lesser best isn't enough", x.need(1, 0), 91);
        Setup.ride(x, 1, 10);
        due("10: the second is replaced", x.need(1, 0), 91);
        x = new Bench();
        Setup.ride(x, 0, 40);
        Setup.ride(x, 0, 30);
        Setup.ride(x, 1, 20);
        due("10: a greater best decides", x.need(1, 0), 150);
        x = new Bench();
        Setup.ride(x, 1, 50);
        due("10: the lesser number is first of like ones", x.need(0, 0), 150);
    }
}
