import java.util.List;

/** Promises 6 to 12: what was told, rows, books. */
final class LandTest {
    private static final int NONE = NightBridge.NONE;

    public static void main(String[] args) {
        land();
        person();
        night();
        row();
        rowEdges();
        rowOfTen();
        rowsByOracle();
        spell();
        days();
        breach();
        Bench.close("LandTest");
    }

    private static void land() {
        Bench b = new Bench();
        b.tell(Bench.LAND, "");
        int[] due = {12, 1, 0, 1, 0, 0};
        for (int what = 0; what < 6; what++) {
            Bench.due("a land at first, " + what, b.x.land(0, what), due[what]);
        }
        b.tell(Bench.LAND, "hours 24;hours 6;cross 3;crowd 9;walk 4;person 0 0 0;bearer 99 10;bearer 7 0;toll 5 98;toll 5 97;");
        int[] told = {6, 3, 9, 4, 1, 2};
        for (int what = 0; what < 6; what++) {
            Bench.due("a land told, " + what, b.x.land(1, what), told[what]);
        }
        Bench.due("TOLL of hour 5", b.x.land(1, 15), 97);
        Bench.due("TOLL of hour 0", b.x.land(1, 10), 0);
        Bench.due("TOLL of hour 4", b.x.land(1, 14), 0);
        Bench.due("TOLL of hour 6", b.x.land(1, 16), NONE);
        Bench.due("COST of bearer 0", b.x.land(1, 50), 99);
        Bench.due("COST of bearer 1", b.x.land(1, 51), 7);
        Bench.due("COST of bearer 2", b.x.land(1, 52), NONE);
        Bench.due("TIRED of bearer 0", b.x.land(1, 60), 10);
        Bench.due("TIRED of bearer 1", b.x.land(1, 61), 0);
        Bench.due("TIRED of bearer 2", b.x.land(1, 62), NONE);
        for (int what : new int[] {-1, 6, 9, 49, 59, 66, Integer.MAX_VALUE, Integer.MIN_VALUE}) {
            Bench.due("land, what " + what, b.x.land(1, what), NONE);
        }
        Bench.due("land 2", b.x.land(2, 0), NONE);
        Bench.due("land -1", b.x.land(-1, 0), NONE);
    }

    private static void person() {
        Bench b = new Bench();
        b.tell(Bench.LAND, "hours 5;person 1 12 11;person 0 3 4;likes 1 0 4 2;likes 1 2 3 9;likes 0 4 4 1;likes 1 3 3 0;");
        int[] due = {1, 12, 11, 0, 3, 4};
        for (int what = 0; what < 3; what++) {
            Bench.due("person 0, " + what, b.x.person(0, 0, what), due[what]);
            Bench.due("person 1, " + what, b.x.person(0, 1, what), due[3 + what]);
        }
        int[] likes = {2, 2, 9, 0, 2};
        for (int h = 0; h < 5; h++) {
            Bench.due("LIKE of 1 of hour " + h, b.x.person(0, 1, 10 + h), likes[h]);
            Bench.due("LIKE of 0 of hour " + h, b.x.person(0, 0, 10 + h), h == 4 ? 1 : 0);
        }
        Bench.due("LIKE of hour 5", b.x.person(0, 1, 15), NONE);
        Bench.due("person, what 3", b.x.person(0, 1, 3), NONE);
        Bench.due("person, what 9", b.x.person(0, 1, 9), NONE);
        Bench.due("person, what -1", b.x.person(0, 1, -1), NONE);
        Bench.due("person 2", b.x.person(0, 2, 0), NONE);
        Bench.due("person -1", b.x.person(0, -1, 0), NONE);
        Bench.due("person of land 1", b.x.person(1, 0, 0), NONE);
    }

    private static void night() {
        Bench b = new Bench();
        b.tell(Bench.TREATY, "night 0 0 22;night 1 3 5;night 2 4 4;");
        for (int h = 0; h < 24; h++) {
            Bench.due("night at " + h, b.x.night(0, h), h == 3 || h == 5 ? 1 : h == 4 || h == 23 ? 2 : 0);
        }
        Bench.due("night at 24", b.x.night(0, 24), NONE);
        Bench.due("night at -1", b.x.night(0, -1), NONE);
        Bench.due("night of treaty 1", b.x.night(1, 0), NONE);
        Bench.due("night of treaty -1", b.x.night(-1, 0), NONE);
    }

    private static void row() {
        Bench b = new Bench();
        b.tell(Bench.LAND, Bench.SOME_LAND);
        b.tell(Bench.TREATY, Bench.SOME_TREATY);
        // 0 0 2 1 1 2: it comes at 0 (toll 7) and at 3 (toll 2), carried for 5 each time
        int[] due = {1, 2, 2, 2, 1, 14, 19, 0};
        for (int what = 0; what < 8; what++) {
            Bench.due("row, " + what, b.x.row(0, 0, what), due[what]);
        }
        Bench.due("row, 8", b.x.row(0, 0, 8), NONE);
        Bench.due("row, -1", b.x.row(0, 0, -1), NONE);
        Bench.due("row of land 1", b.x.row(1, 0, 0), NONE);
        Bench.due("row of treaty 1", b.x.row(0, 1, 0), NONE);
        b.tell(Bench.TREATY, "night 0 0 2;night 1 4 4;");
        int[] other = {1, 2, 3, 1, 0, 13, 17, 2};
        for (int what = 0; what < 8; what++) {
            Bench.due("row 1, " + what, b.x.row(0, 1, what), other[what]);
        }
    }

    private static void dueRow(String land, String treaty, int legal, int carryings) {
        Bench b = new Bench();
        Bench.due(land, b.tell(Bench.LAND, land), 0);
        Bench.due(treaty, b.tell(Bench.TREATY, treaty), 0);
        Bench.due("LEGAL of " + land + treaty, b.x.row(0, 0, 0), legal);
        Bench.due("CARRYINGS of " + land + treaty, b.x.row(0, 0, 1), carryings);
    }

    private static void rowEdges() {
        dueRow("hours 4;", "night 0 0 23;", 1, 0);
        dueRow("hours 4;", "night 1 0 3;", 1, 0);
        dueRow("hours 4;", "", 0, 0);
        dueRow("hours 4;cross 0;", "", 0, 0);
        dueRow("hours 4;cross 3;", "night 0 0 0;", 0, 0);
        dueRow("hours 4;cross 1;", "night 0 0 0;night 1 2 2;", 1, 2);
        dueRow("hours 4;cross 1;", "night 0 1 1;night 1 3 3;", 1, 2);
        dueRow("hours 4;cross 1;", "night 0 0 1;night 1 2 3;", 0, 2);
        dueRow("hours 4;cross 0;", "night 0 0 1;night 1 2 3;", 1, 2);
        dueRow("hours 4;cross 0;", "night 0 0 0;night 1 1 1;night 0 2 2;night 1 3 3;", 1, 4);
        dueRow("hours 4;cross 0;", "night 0 0 0;night 1 2 2;", 0, 2);
        dueRow("hours 5;cross 1;", "night 0 0 1;night 0 3 4;", 0, 0);
        dueRow("hours 6;cross 2;", "night 0 2 2;night 1 5 5;", 1, 2);
        dueRow("hours 6;cross 2;", "night 0 1 2;night 1 5 5;", 0, 2);
        dueRow("hours 8;cross 3;", "night 1 3 3;night 0 7 7;", 1, 2);
        // a day ends with HOURS, whatever the treaty tells of later ones
        dueRow("hours 4;cross 1;", "night 0 0 0;night 1 2 2;night 1 4 23;", 1, 2);
    }

    private static void rowOfTen() {
        Bench b = new Bench();
        StringBuilder s = new StringBuilder("hours 24;");
        for (int p = 0; p < 10; p++) {
            s.append("person ").append(p % 2).append(' ').append(p).append(" 1;likes ").append(p).append(" 0 23 9;");
        }
        b.tell(Bench.LAND, s.toString());
        b.tell(Bench.TREATY, "night 0 0 7;night 1 9 20;");
        int[] due = {0, 2, 8, 12, 1, 5 * 9 * 20, 0, 0};
        for (int what = 0; what < 8; what++) {
            Bench.due("the row of ten, " + what, b.x.row(0, 0, what), due[what]);
        }
        b.tell(Bench.TREATY, 0, "night 0 0 6;night 1 9 13;");
        Bench.due("no SLEEP of ten", b.x.row(0, 0, 7), 0b1110000000);
        Bench.due("WORTH of all bits", b.x.worth(0, 0, -1), 5 * 9 * 24);
        Bench.due("STRAIT of ten in a long day", b.x.best(0, 3), 0);
        b.tell(Bench.LAND, 0, s.toString().replace("hours 24", "hours 16").replace("0 23 9", "0 15 9"));
        Bench.due("STRAIT of ten", b.x.best(0, 3), 1);
    }

    private static void rowsByOracle() {
        Oracle.Dice dice = new Oracle.Dice(7);
        for (int i = 0; i < 60; i++) {
            Oracle o = Oracle.random(dice, 4, 24);
            Bench b = new Bench();
            Bench.due(o.text(), b.tell(Bench.LAND, o.text()), 0);
            for (int j = 0; j < 20; j++) {
                int[] row = dice.row(o.hours);
                b.tell(Bench.TREATY, j == 0 ? NONE : 0, Oracle.rowText(row));
                String what = o.text() + Oracle.rowText(row);
                List<int[]> arrivals = o.arrivals(row);
                Bench.due("LEGAL " + what, b.x.row(0, 0, 0), o.legal(row) ? 1 : 0);
                Bench.due("CARRYINGS " + what, b.x.row(0, 0, 1), arrivals.size());
                Bench.due("DARK 0 " + what, b.x.row(0, 0, 2), Oracle.dark(row, 0));
                Bench.due("DARK 1 " + what, b.x.row(0, 0, 3), Oracle.dark(row, 1));
                Bench.due("all SLEEP " + what, b.x.row(0, 0, 4), o.sleepless(row) == 0 ? 1 : 0);
                Bench.due("VALUE " + what, b.x.row(0, 0, 5), o.value(row));
                Bench.due("PRICE " + what, b.x.row(0, 0, 6), o.price(row));
                Bench.due("no SLEEP " + what, b.x.row(0, 0, 7), o.sleepless(row));
            }
        }
    }

    private static void spell() {
        Bench b = new Bench();
        b.tell(Bench.BOOK, "at 0 2;at 2 1;at 1 24;");
        Bench.due("SPELLS", b.x.spell(0, NONE, 0), 3);
        Bench.due("hours of all", b.x.spell(0, NONE, 1), 27);
        int[] due = {0, 2, 2, 1, 1, 24};
        for (int k = 0; k < 3; k++) {
            Bench.due("where of spell " + k, b.x.spell(0, k, 0), due[2 * k]);
            Bench.due("hours of spell " + k, b.x.spell(0, k, 1), due[2 * k + 1]);
        }
        Bench.due("spell 3", b.x.spell(0, 3, 0), -2);
        Bench.due("spell -2", b.x.spell(0, -2, 0), -2);
        Bench.due("spell, what 2", b.x.spell(0, 0, 2), -2);
        Bench.due("spells, what 2", b.x.spell(0, NONE, 2), -2);
        Bench.due("spells, what -1", b.x.spell(0, NONE, -1), -2);
        Bench.due("spells of book 1", b.x.spell(1, NONE, 0), -2);
    }

    private static void days() {
        Bench b = new Bench();
        b.tell(Bench.LAND, Bench.SOME_LAND);
        // 0 0 2 1 1 2 | 2 2 0 0 0 1 | 1 1
        b.tell(Bench.BOOK, "at 0 2;at 2 1;at 1 2;at 2 1;at 2 2;at 0 3;at 1 3;");
        Bench.due("whole days", b.x.days(0, 0, 0), 2);
        Bench.due("VILLAGES", b.x.days(0, 0, 1), 1);
        Bench.due("hours in city 0", b.x.days(0, 0, 2), 5);
        Bench.due("hours in city 1", b.x.days(0, 0, 3), 5);
        Bench.due("SLEPT of day 0", b.x.days(0, 0, 100), 3);
        Bench.due("SLEPT of day 1", b.x.days(0, 0, 101), 1);
        for (int what : new int[] {102, 99, 4, -1, Integer.MAX_VALUE, Integer.MIN_VALUE}) {
            Bench.due("days, what " + what, b.x.days(0, 0, what), -2);
        }
        Bench.due("days of land 1", b.x.days(1, 0, 0), -2);
        Bench.due("days of book 1", b.x.days(0, 1, 0), -2);
        b.tell(Bench.BOOK, "at 2 1;at 0 1;at 2 2;at 1 1;at 2 24;at 2 24;");
        int[] villages = {3, 2, 1, 1};
        for (int cross = 0; cross < 4; cross++) {
            b.tell(Bench.LAND, 0, "cross " + cross + ";");
            Bench.due("VILLAGES, cross " + cross, b.x.days(0, 1, 1), villages[cross]);
        }
        // LIGHT counts in a day, too; a book of four days to the last hour
        b.tell(Bench.LAND, 0, "hours 24;person 0 12 12;person 0 12 11;person 1 0 12;");
        b.tell(Bench.BOOK, 0, "at 0 24;at 0 12;at 1 12;at 1 24;at 2 24;");
        int[] slept = {4, 7, 0, 4};
        Bench.due("four days", b.x.days(0, 0, 0), 4);
        for (int d = 0; d < 4; d++) {
            Bench.due("SLEPT of " + d, b.x.days(0, 0, 100 + d), slept[d]);
        }
        Bench.due("SLEPT of 4", b.x.days(0, 0, 104), -2);
        Bench.due("VILLAGES of 96 hours", b.x.days(0, 0, 1), 1);
        b.tell(Bench.LAND, 0, "cross 1;");
        b.tell(Bench.BOOK, 0, "at 2 5;");
        b.tell(Bench.BOOK, 0, "at 2 1;");
        Bench.due("VILLAGES of one hour", b.x.days(0, 0, 1), 0);
        b.tell(Bench.BOOK, 0, "");
        Bench.due("no days", b.x.days(0, 0, 0), 0);
        Bench.due("SLEPT of no day", b.x.days(0, 0, 100), -2);
    }

    private static void breach() {
        Bench b = new Bench();
        b.tell(Bench.LAND, Bench.SOME_LAND);
        b.tell(Bench.TREATY, Bench.SOME_TREATY);
        b.tell(Bench.BOOK, "at 0 2;at 2 1;at 1 2;at 2 1;at 0 2;at 2 1;at 1 2;");
        Bench.due("no BREACH", b.x.breach(0, 0, 0, 0), NONE);
        Bench.due("nothing OWED", b.x.breach(0, 0, 0, 1), 0);
        // the row goes on 0 0 2 1 1 2 | 0 0 2 1
        b.tell(Bench.BOOK, "at 0 2;at 2 1;at 1 2;at 2 2;at 1 3;");
        Bench.due("BREACH", b.x.breach(0, 1, 0, 0), 6);
        Bench.due("OWED to city 0", b.x.breach(0, 1, 0, 1), 2);
        Bench.due("OWED to city 1", b.x.breach(0, 1, 0, 2), -2);
        Bench.due("breach, what 3", b.x.breach(0, 1, 0, 3), -1000);
        Bench.due("breach, what -1", b.x.breach(0, 1, 0, -1), -1000);
        Bench.due("breach of land 1", b.x.breach(1, 1, 0, 0), -1000);
        Bench.due("breach of book 2", b.x.breach(0, 2, 0, 0), -1000);
        Bench.due("breach of treaty 1", b.x.breach(0, 1, 1, 0), -1000);
        b.tell(Bench.BOOK, 0, "at 1 1;");
        Bench.due("BREACH at once", b.x.breach(0, 0, 0, 0), 0);
        b.tell(Bench.BOOK, 0, "");
        Bench.due("BREACH of an empty book", b.x.breach(0, 0, 0, 0), NONE);
    }
}
