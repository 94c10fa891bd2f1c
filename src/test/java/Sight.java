/** All that can be seen of an object from outside without changing it, as a text. */
final class Sight {
    private Sight() {
    }

    static String of(HeatBench x) {
        return heatOf(x) + waitOf(x);
    }

    private static String heatOf(HeatBench x) {
        StringBuilder s = new StringBuilder();
        for (int what = 0; what <= 6; what++) {
            s.append(x.many(what)).append(' ');
        }
        for (int i = 0; i < 4; i++) {
            s.append("line ").append(x.line(i)).append(' ');
        }
        for (int rider = 0; rider < x.many(0); rider++) {
            for (int what = 0; what <= 5; what++) {
                s.append(x.told(rider, what)).append(' ');
            }
            for (int k = 0; k <= 3; k++) {
                s.append(x.need(rider, k)).append(' ');
                s.append(x.chance(rider, k, 0)).append('/').append(x.chance(rider, k, 1)).append(' ');
            }
        }
        for (int ride = 0; ride < x.many(1); ride++) {
            s.append("ride");
            for (int what = 0; what <= 3; what++) {
                s.append(' ').append(x.of(ride, what));
            }
            for (int judge = 0; judge < 5; judge++) {
                int mark = x.mark(ride, judge, -1);
                x.mark(ride, judge, mark);
                s.append(' ').append(mark);
            }
            s.append("; ");
        }
        return s.toString();
    }

    private static String waitOf(HeatBench x) {
        StringBuilder s = new StringBuilder();
        int days = x.many(4);
        for (int day = 0; day <= days; day++) {
            for (int r = 0; r <= days - day; r++) {
                s.append(x.worth(day, r, 0)).append('/').append(x.worth(day, r, 1)).append(' ');
            }
        }
        for (int day = 0; day < days; day++) {
            int q = x.was(day, -1);
            x.was(day, q);
            s.append("day ").append(q).append(' ');
        }
        return s.toString();
    }
}
