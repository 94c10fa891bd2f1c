/**
 * HeatBench as the document lets it be used: what an object answers after its 512th call is free, so
 * a test that asks on is itself at fault.
 */
final class Bench {
    static final int MOST_CALLS = 512;

    private final HeatBench it = new HeatBench();
    private int calls = 0;

    int calls() {
        return calls;
    }

    private HeatBench asked() {
        calls++;
        if (calls > MOST_CALLS) {
            throw new IllegalStateException("this test asks one object more often than " + MOST_CALLS + " times");
        }
        return it;
    }

    int heat(int n) {
        return asked().heat(n);
    }

    int take(int rider, int wave) {
        return asked().take(rider, wave);
    }

    int back(int rider) {
        return asked().back(rider);
    }

    int letGo() {
        return asked().letGo();
    }

    int mark(int ride, int judge, int v) {
        return asked().mark(ride, judge, v);
    }

    int of(int ride, int what) {
        return asked().of(ride, what);
    }

    int line(int i) {
        return asked().line(i);
    }

    int told(int rider, int what) {
        return asked().told(rider, what);
    }

    int need(int rider, int k) {
        return asked().need(rider, k);
    }

    int past(int score) {
        return asked().past(score);
    }

    int keep() {
        return asked().keep();
    }

    int forget() {
        return asked().forget();
    }

    int chance(int rider, int k, int what) {
        return asked().chance(rider, k, what);
    }

    int ways() {
        return asked().ways();
    }

    int luck(int rider) {
        return asked().luck(rider);
    }

    int days(int d) {
        return asked().days(d);
    }

    int span(int day, int a, int b) {
        return asked().span(day, a, b);
    }

    int was(int day, int q) {
        return asked().was(day, q);
    }

    long worth(int day, int r, int what) {
        return asked().worth(day, r, what);
    }

    int call(int day, int r, int q) {
        return asked().call(day, r, q);
    }

    int run(int r, int what) {
        return asked().run(r, what);
    }

    int behind(int r) {
        return asked().behind(r);
    }

    int many(int what) {
        return asked().many(what);
    }
}
