/** States and steps that several tests take on the way to what they look at. */
final class Setup {
    private Setup() {
    }

    static Bench fresh() {
        return new Bench();
    }

    static Bench heatOf(int n) {
        Bench x = new Bench();
        x.heat(n);
        return x;
    }

    /** Something of everything: riders 1 and 3 on wave 5, which is not let go, and only 3 back in the line. */
    static Bench busy() {
        Bench x = heatOf(4);
        x.take(3, 5);
        x.take(1, 5);
        x.mark(0, 0, 50);
        x.mark(0, 1, 61);
        x.mark(1, 2, 70);
        x.mark(1, 4, 0);
        x.back(3);
        x.past(120);
        x.past(200);
        x.past(300);
        x.days(4);
        x.span(1, 2, 7);
        x.span(3, 4, 4);
        x.was(0, 6);
        x.was(1, 2);
        return x;
    }

    /** As many rides as wanted, by rider 0 and on waves of their own; rider 0 is away then. */
    static Bench rides(int count) {
        Bench x = new Bench();
        for (int i = 0; i < count; i++) {
            x.back(0);
            x.take(0, i);
            x.mark(i, i % 5, 3 * i);
        }
        return x;
    }

    /** PAST with as many scores as wanted: 0, 7, 14 and on. */
    static Bench past(int count) {
        Bench x = new Bench();
        for (int i = 0; i < count; i++) {
            x.past(7 * i);
        }
        return x;
    }

    /** A ride on a wave of its own with one mark, so that its score is three times that. */
    static void ride(Bench x, int rider, int mark) {
        int ride = x.take(rider, x.many(1));
        x.mark(ride, 0, mark);
        x.back(rider);
    }

    /** Rider 0 stands first and takes the wave too, so the other one has interfered; both come back. */
    static void interfere(Bench x, int rider, int wave) {
        x.take(0, wave);
        x.take(rider, wave);
        x.letGo();
        x.back(0);
        x.back(rider);
    }

    /** Three marks whose sum is the score, whatever that is. */
    static void score(Bench x, int ride, int score) {
        x.mark(ride, 0, score / 3);
        x.mark(ride, 1, (score + 1) / 3);
        x.mark(ride, 2, (score + 2) / 3);
    }

    static void marks(Bench x, int ride, int... marks) {
        for (int judge = 0; judge < marks.length; judge++) {
            x.mark(ride, judge, marks[judge]);
        }
    }

    /** A wait of as many days as there are numbers, each having been what its number says. */
    static Bench waitOf(int... was) {
        Bench x = new Bench();
        x.days(was.length);
        for (int day = 0; day < was.length; day++) {
            x.was(day, was[day]);
        }
        return x;
    }

    /** A wait of as many days as there are numbers, each with a span of that number alone, none known. */
    static Bench sureDays(int... numbers) {
        Bench x = new Bench();
        x.days(numbers.length);
        for (int day = 0; day < numbers.length; day++) {
            x.span(day, numbers[day], numbers[day]);
        }
        return x;
    }
}
