/** Steps that several tests take on the way to what they look at. */
final class Setup {
    private Setup() {
    }

    /** A ride on a wave of its own with one mark, so that its score is three times that. */
    static void ride(HeatBench x, int rider, int mark) {
        int ride = x.take(rider, x.many(1));
        x.mark(ride, 0, mark);
        x.back(rider);
    }

    /** A wait of as many days as there are numbers, each having been what its number says. */
    static HeatBench waitOf(int... was) {
        HeatBench x = new HeatBench();
        x.days(was.length);
        for (int day = 0; day < was.length; day++) {
            x.was(day, was[day]);
        }
        return x;
    }
}
