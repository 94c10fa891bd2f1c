/** Promise 24: many, as the other calls change it. Its refusals are looked at by ObjectEdgesTest. */
public final class ManyTest {
    private static final Check CHECK = new Check("ManyTest");

    public static void main(String[] args) {
        counts();
        CHECK.end();
    }

    private static void due(Bench x, int... want) {
        for (int what = 0; what < want.length; what++) {
            CHECK.due("24: many(" + what + ")", x.many(what), want[what]);
        }
    }

    private static void counts() {
        Bench x = new Bench();
        due(x, 2, 0, 2, 0, 5, 0, 0);
        x.heat(4);
        due(x, 4, 0, 4, 0, 5, 0, 0);
        x.take(1, 3);
        x.take(2, 3);
        x.take(3, 3);
        due(x, 4, 3, 1, 0, 5, 0, 2);
        x.back(2);
        x.take(2, 4);
        x.take(0, 4);
        due(x, 4, 5, 0, 0, 5, 0, 3);
        x.back(3);
        x.past(4);
        x.past(5);
        x.past(6);
        due(x, 4, 5, 1, 3, 5, 0, 3);
        x.days(8);
        x.was(0, 0);
        x.was(7, 3);
        due(x, 4, 5, 1, 3, 8, 2, 3);
        x.was(7, -1);
        x.forget();
        due(x, 4, 5, 1, 0, 8, 1, 3);
        x.heat(3);
        due(x, 3, 0, 3, 0, 8, 1, 0);
        x.days(1);
        due(x, 3, 0, 3, 0, 1, 0, 0);
    }
}
