/** Promises 25 and 26: errands over the bridge, and meeting. */
final class ErrandTest {
    private static final int NONE = NightBridge.NONE;

    public static void main(String[] args) {
        errand();
        meet();
        byOracle();
        Bench.close("ErrandTest");
    }

    private static void dueErrand(Bench b, int person, int hour, int n, int hours, int wait) {
        Bench.due("ERRAND of " + person + " from " + hour + " for " + n, b.x.errand(0, 0, person, hour, n, false), hours);
        Bench.due("wait of " + person + " from " + hour + " for " + n, b.x.errand(0, 0, person, hour, n, true), wait);
    }

    private static void errand() {
        Bench b = new Bench();
        b.tell(Bench.LAND, "hours 8;walk 2;person 0 0 0;person 1 0 0;");
        b.tell(Bench.TREATY, "night 0 0 1;night 1 3 4;");
        // 0 0 2 1 1 2 2 2: dark at 0 and 1; leaving at 2, it is dark there; at 3 or 4, at home; at 5, home at 10
        dueErrand(b, 0, 0, 1, 10, 5);
        dueErrand(b, 0, 4, 1, 6, 1);
        dueErrand(b, 0, 5, 1, 5, 0);
        dueErrand(b, 0, 7, 1, 5, 0);
        dueErrand(b, 0, 2, 1, 8, 3);
        dueErrand(b, 0, 2, 2, 8, 2);
        Bench.due("n 0", b.x.errand(0, 0, 0, 0, 0, false), NONE);
        Bench.due("n 13", b.x.errand(0, 0, 0, 0, 13, false), NONE);
        Bench.due("hour 8", b.x.errand(0, 0, 0, 8, 1, false), NONE);
        Bench.due("hour -1", b.x.errand(0, 0, 0, -1, 1, true), NONE);
        Bench.due("person 2", b.x.errand(0, 0, 2, 0, 1, true), NONE);
        Bench.due("person -1", b.x.errand(0, 0, -1, 0, 1, false), NONE);
        Bench.due("land 1", b.x.errand(1, 0, 0, 0, 1, false), NONE);
        Bench.due("treaty 1", b.x.errand(0, 1, 0, 0, 1, false), NONE);
        // never: the other city is not light for so long, though a day has hours enough
        dueErrand(b, 0, 0, 7, NONE, NONE);
        b.tell(Bench.LAND, 0, "hours 4;walk 4;person 0 0 0;person 1 0 0;");
        b.tell(Bench.TREATY, 0, "night 0 1 1;");
        // one of city 0 finds the other city light for days, but comes home n hours on, round
        dueErrand(b, 0, 0, 12, 20, 0);
        dueErrand(b, 0, 0, 1, 11, 2);
        dueErrand(b, 0, 1, 12, 21, 1);
        dueErrand(b, 1, 0, 4, NONE, NONE);
        dueErrand(b, 1, 1, 3, 12, 1);
        b.tell(Bench.TREATY, 0, "night 0 0 3;");
        dueErrand(b, 0, 0, 1, NONE, NONE);
        dueErrand(b, 1, 0, 1, NONE, NONE);
    }

    private static void dueMeet(Bench b, int one, int other, int hour, int hours) {
        Bench.due("MEET of " + one + " and " + other + " from " + hour, b.x.meet(0, 0, one, other, hour), hours);
    }

    private static void meet() {
        Bench b = new Bench();
        b.tell(Bench.LAND, "hours 6;person 0 0 0;person 1 0 0;person 0 0 0;");
        b.tell(Bench.TREATY, "night 0 0 1;night 1 3 4;");
        int[] apart = {2, 1, 0, 2, 1, 0};
        int[] together = {2, 1, 0, 0, 0, 0};
        for (int h = 0; h < 6; h++) {
            dueMeet(b, 0, 1, h, apart[h]);
            dueMeet(b, 1, 2, h, apart[h]);
            dueMeet(b, 0, 2, h, together[h]);
            dueMeet(b, 2, 2, h, together[h]);
        }
        dueMeet(b, 0, 3, 0, NONE);
        dueMeet(b, -1, 0, 0, NONE);
        dueMeet(b, 0, 1, 6, NONE);
        dueMeet(b, 0, 1, -1, NONE);
        Bench.due("MEET in land 1", b.x.meet(1, 0, 0, 1, 0), NONE);
        Bench.due("MEET by treaty 1", b.x.meet(0, 1, 0, 1, 0), NONE);
        b.tell(Bench.TREATY, "night 0 0 2;night 1 3 5;");
        Bench.due("MEET never", b.x.meet(0, 1, 0, 1, 0), NONE);
        Bench.due("MEET of one city", b.x.meet(0, 1, 0, 2, 1), 2);
    }

    private static boolean light(int[] row, int city, int hour) {
        return row[hour % row.length] != city;
    }

    private static void byOracle() {
        Oracle.Dice dice = new Oracle.Dice(41);
        for (int i = 0; i < 150; i++) {
            Oracle o = Oracle.random(dice, 4, 24);
            int[] row = dice.row(o.hours);
            Bench b = new Bench();
            b.tell(Bench.LAND, o.text());
            b.tell(Bench.TREATY, Oracle.rowText(row));
            for (int p = 0; p < o.people.size(); p++) {
                int city = o.city(p);
                int hour = dice.between(0, o.hours - 1);
                int n = dice.between(1, 12);
                int wait = NONE;
                for (int w = 3 * o.hours; w >= 0; w--) {
                    int t = hour + w;
                    boolean goes = light(row, city, t) && light(row, city, t + 2 * o.walk + n);
                    for (int k = 0; k < n; k++) {
                        goes &= light(row, 1 - city, t + o.walk + k);
                    }
                    wait = goes ? w : wait;
                }
                int hours = wait == NONE ? NONE : wait + 2 * o.walk + n;
                Bench.due("ERRAND " + o.text(), b.x.errand(0, 0, p, hour, n, false), hours);
                Bench.due("wait " + o.text(), b.x.errand(0, 0, p, hour, n, true), wait);
                int other = dice.between(0, o.people.size() - 1);
                int meet = NONE;
                for (int w = 3 * o.hours; w >= 0; w--) {
                    meet = light(row, city, hour + w) && light(row, o.city(other), hour + w) ? w : meet;
                }
                Bench.due("MEET " + o.text(), b.x.meet(0, 0, p, other, hour), meet);
            }
        }
    }
}
