import java.util.Arrays;

/** Promises 13 and 14: how many ways, and the best of them; an object of it goes through all rows of a land. */
final class WaysTest {
    private static final int NONE = NightBridge.NONE;

    public static void main(String[] args) {
        ways();
        best();
        great();
        byOracle();
        Bench.close("WaysTest");
    }

    private static long ways(String land) {
        Bench b = new Bench();
        Bench.due(land, b.tell(Bench.LAND, land), 0);
        return b.x.ways(0);
    }

    private static void ways() {
        Bench.due("rows of 0, 1 alone", ways("hours 4;cross 0;"), 16);
        Bench.due("all rows of a long day", ways("hours 24;cross 0;"), 1 << 24);
        // always in one city, or 0 2 1 2 from any of four hours
        Bench.due("rows of 4 hours", ways("hours 4;"), 6);
        // of those with dark in both
        Bench.due("for both cities", ways("hours 4;person 0 1 0;person 1 1 0;"), 4);
        Bench.due("for one city", ways("hours 4;person 0 1 0;"), 5);
        Bench.due("with light", ways("hours 4;person 0 1 3;"), 4);
        Bench.due("too long a bridge", ways("hours 7;cross 3;person 0 1 0;person 1 1 0;"), 0);
        Bench.due("a bridge that fits", ways("hours 8;cross 3;person 0 1 0;person 1 1 0;"), 8);
        Bench.due("more dark and light than hours", ways("hours 4;cross 0;person 0 3 2;"), 0);
        Bench b = new Bench();
        Bench.due("ways of land 0", b.x.ways(0), NONE);
        b.tell(Bench.LAND, "");
        Bench.due("ways of land -1", b.x.ways(-1), NONE);
        Bench.due("ways of land 1", b.x.ways(1), NONE);
    }

    private static void best() {
        Bench b = new Bench();
        b.tell(Bench.LAND, Bench.SOME_LAND);
        // 0 0 2 1 1 2 has VALUE 14, too, but it comes at hours with a TOLL
        int[] due = {2, 14, 10, 0};
        int[] row = {2, 0, 0, 2, 1, 1};
        for (int what = 0; what < 4; what++) {
            Bench.due("best, " + what, b.x.best(0, what), due[what]);
        }
        for (int h = 0; h < 6; h++) {
            Bench.due("the first row at " + h, b.x.best(0, 10 + h), row[h]);
        }
        for (int what : new int[] {-1, 4, 9, 16, Integer.MAX_VALUE, Integer.MIN_VALUE}) {
            Bench.due("best, what " + what, b.x.best(0, what), NONE);
        }
        Bench.due("best of land 1", b.x.best(1, 0), NONE);
        // no row at all: STRAIT is told all the same
        b.tell(Bench.LAND, "hours 10;person 0 5 0;person 0 6 0;person 1 7 0;person 1 1 0;");
        Bench.due("FEWEST of none", b.x.best(1, 0), NONE);
        Bench.due("MOST of none", b.x.best(1, 1), NONE);
        Bench.due("CHEAP of none", b.x.best(1, 2), NONE);
        Bench.due("the row of none", b.x.best(1, 10), NONE);
        Bench.due("STRAIT", b.x.best(1, 3), 3);
        Bench.due("WAYS of none", b.x.ways(1), 0);
        // told anew, the best is found anew
        b.tell(Bench.LAND, 0, "hours 4;");
        Bench.due("MOST anew", b.x.best(0, 1), 0);
        Bench.due("CHEAP anew", b.x.best(0, 2), 0);
        Bench.due("FEWEST anew", b.x.best(0, 0), 0);
        Bench.due("the row anew", b.x.best(0, 13), 0);
        // a price is looked at behind the value, and the first row behind both
        b.tell(Bench.LAND, 0, "hours 4;cross 0;person 0 2 2;toll 0 9;toll 1 3;toll 2 3;toll 3 3;");
        Bench.due("CHEAP", b.x.best(0, 2), 6);
        int[] first = {0, 1, 1, 0};
        for (int h = 0; h < 4; h++) {
            Bench.due("the first cheap row at " + h, b.x.best(0, 10 + h), first[h]);
        }
        // light only where the night crosses again and again
        b.tell(Bench.LAND, 0, "hours 12;cross 1;person 0 4 8;person 1 4 8;");
        Bench.due("FEWEST by light", b.x.best(0, 0), 4);
    }

    /** The largest numbers that a land may tell of. */
    private static void great() {
        Bench b = new Bench();
        StringBuilder s = new StringBuilder("hours 24;cross 0;");
        for (int p = 0; p < 10; p++) {
            s.append("person 0 0 0;likes ").append(p).append(" 0 23 9;");
        }
        b.tell(Bench.LAND, s.toString());
        Bench.due("MOST of all", b.x.best(0, 1), 2160);
        Bench.due("CHEAP of all", b.x.best(0, 2), 0);
        s = new StringBuilder("hours 24;cross 0;bearer 99 0;person 0 0 0;person 1 0 0;likes 1 0 23 4;");
        for (int h = 0; h < 24; h++) {
            s.append("toll ").append(h).append(" 99;");
            if (h % 2 == 0) {
                s.append("likes 0 ").append(h).append(' ').append(h).append(" 9;");
            }
        }
        Bench.due("a long land", b.tell(Bench.LAND, s.toString()), 1);
        Bench.due("MOST of turns", b.x.best(1, 1), 12 * 9 + 12 * 4);
        Bench.due("CHEAP of turns", b.x.best(1, 2), 24 * 198);
        for (int h = 0; h < 24; h++) {
            Bench.due("turns at " + h, b.x.best(1, 10 + h), h % 2);
        }
    }

    private static void byOracle() {
        Oracle.Dice dice = new Oracle.Dice(3);
        for (int i = 0; i < 300; i++) {
            new WaysTest(Oracle.random(dice, 4, 9)).dueAsOracle();
        }
        // longer days, of which there are few enough rows by the length of the bridge
        int[] longest = {13, 17, 22, 24};
        for (int i = 0; i < 40; i++) {
            Oracle o = Oracle.random(dice, 10, 13);
            o.cross = i % 4;
            o.hours = dice.between(o.hours, longest[o.cross]);
            for (int[] person : o.people) {
                person[1] = Math.min(person[1], 4);
                person[2] = Math.min(person[2], 4);
            }
            new WaysTest(o).dueAsOracle();
        }
    }

    private final Oracle o;
    private final int[] row;
    private long ways;
    private int fewest = Integer.MAX_VALUE;
    private int most = -1;
    private int cheap;
    private int[] first;

    private WaysTest(Oracle land) {
        o = land;
        row = new int[o.hours];
        first = new int[o.hours];
        Arrays.fill(first, NONE);
    }

    private void dueAsOracle() {
        String text = o.text();
        fill(0);
        Bench b = new Bench();
        b.tell(Bench.LAND, text);
        Bench.due("WAYS of " + text, b.x.ways(0), ways);
        Bench.due("FEWEST of " + text, b.x.best(0, 0), ways == 0 ? NONE : fewest);
        Bench.due("MOST of " + text, b.x.best(0, 1), ways == 0 ? NONE : most);
        Bench.due("CHEAP of " + text, b.x.best(0, 2), ways == 0 ? NONE : cheap);
        int[] got = new int[o.hours];
        for (int h = 0; h < o.hours; h++) {
            got[h] = b.x.best(0, 10 + h);
        }
        Bench.due("first row of " + text + Arrays.toString(got) + Arrays.toString(first), Arrays.equals(got, first), true);
    }

    /** All rows in their order, but those that are surely not legal by what their first hours tell. */
    private void fill(int hour) {
        if (hour == o.hours) {
            look();
            return;
        }
        for (int place = 0; place < 3; place++) {
            row[hour] = place;
            if (canBegin(hour)) {
                fill(hour + 1);
            }
        }
    }

    private boolean canBegin(int hour) {
        if (hour == 0) {
            return true;
        }
        if (row[hour] != 2 && row[hour - 1] != 2) {
            return row[hour] == row[hour - 1] || o.cross == 0;
        }
        int stay = 0;
        while (stay < hour && row[hour - 1 - stay] == 2) {
            stay++;
        }
        return row[hour] == 2 ? stay < o.cross : stay == o.cross || stay == hour;
    }

    private void look() {
        if (!o.legal(row) || o.sleepless(row) != 0) {
            return;
        }
        ways++;
        fewest = Math.min(fewest, o.arrivals(row).size());
        int value = o.value(row);
        if (value < most) {
            return;
        }
        int price = o.price(row);
        if (value > most || price < cheap) {
            most = value;
            cheap = price;
            first = row.clone();
        }
    }
}
