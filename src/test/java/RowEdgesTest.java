import java.util.List;

/** Promises 9 to 14 at their edges: every row of a short day, dark and light just enough, days just whole, hours round. */
final class RowEdgesTest {
    private static final int NONE = NightBridge.NONE;

    public static void main(String[] args) {
        everyRow();
        longStaysRound();
        hoursBeyond();
        sleepJustSo();
        waysJustSo();
        waysOfBoth();
        fewestByLight();
        strait();
        bestOfAlike();
        bestRound();
        wholeDays();
        sleptJustSo();
        villages();
        breachAtEveryHour();
        owed();
        Bench.close("RowEdgesTest");
    }

    private static Bench told(String land, String treaty) {
        Bench b = new Bench();
        Bench.due(land, b.tell(Bench.LAND, land), 0);
        Bench.due(treaty, b.tell(Bench.TREATY, treaty), 0);
        return b;
    }

    // ---- rows ----

    /** All rows of 4, 5 and 6 hours by every CROSS: a stay over the day's end is as good as any. */
    private static void everyRow() {
        for (int hours = 4; hours <= 6; hours++) {
            for (int cross = 0; cross <= 3; cross++) {
                Oracle o = new Oracle();
                o.hours = hours;
                o.cross = cross;
                o.bearers.add(new int[] {5, 0});
                o.bearers.add(new int[] {4, 10});
                for (int h = 0; h < hours; h++) {
                    o.toll[h] = 1 << h;
                }
                int legal = 0;
                Bench b = told(o.text(), "");
                for (int code = 0; code < Math.pow(3, hours); code++) {
                    int[] row = rowOf(code, hours);
                    String text = Oracle.rowText(row);
                    b.tell(Bench.TREATY, 0, text);
                    String what = " of " + text + " in " + o.text();
                    Bench.due("LEGAL" + what, b.x.row(0, 0, 0), o.legal(row) ? 1 : 0);
                    Bench.due("CARRYINGS" + what, b.x.row(0, 0, 1), o.arrivals(row).size());
                    Bench.due("DARK 0" + what, b.x.row(0, 0, 2), Oracle.dark(row, 0));
                    Bench.due("DARK 1" + what, b.x.row(0, 0, 3), Oracle.dark(row, 1));
                    Bench.due("PRICE" + what, b.x.row(0, 0, 6), o.price(row));
                    legal += o.legal(row) ? 1 : 0;
                }
                Bench.due("WAYS of " + o.text(), b.x.ways(0), legal);
            }
        }
    }

    private static int[] rowOf(int code, int hours) {
        int[] row = new int[hours];
        int rest = code;
        for (int h = 0; h < hours; h++) {
            row[h] = rest % 3;
            rest /= 3;
        }
        return row;
    }

    /** A day of 24 hours with two stays on the bridge, one over its end, of every length and by every CROSS. */
    private static void longStaysRound() {
        for (int cross = 0; cross <= 3; cross++) {
            for (int stay = 1; stay <= 4; stay++) {
                for (int from = 20; from < 24; from++) {
                    int to = (from + stay) % 24;
                    int[] row = new int[24];
                    java.util.Arrays.fill(row, 0, 24, 2);
                    for (int h = to; h != 10; h = (h + 1) % 24) {
                        row[h] = 1;
                    }
                    for (int h = 10 + cross; h < from; h++) {
                        row[h] = 0;
                    }
                    Bench b = told("hours 24;cross " + cross + ";toll " + to + " 9;", Oracle.rowText(row));
                    Bench.due("LEGAL of a stay of " + stay + " by CROSS " + cross, b.x.row(0, 0, 0), stay == cross ? 1 : 0);
                    Bench.due("CARRYINGS of it", b.x.row(0, 0, 1), 2);
                    Bench.due("PRICE of it", b.x.row(0, 0, 6), 9);
                }
            }
        }
    }

    /** What a treaty tells of hours from HOURS on does not count. */
    private static void hoursBeyond() {
        for (int hours = 4; hours <= 23; hours++) {
            Bench b = told("hours " + hours + ";person 1 0 0;likes 0 0 " + (hours - 1) + " 1;",
                    "night 0 0 " + (hours - 1) + ";night 1 " + hours + " 23;");
            int[] due = {1, 0, hours, 0, 1, 0, 0, 0};
            for (int what = 0; what < 8; what++) {
                Bench.due("row of " + hours + ", " + what, b.x.row(0, 0, what), due[what]);
            }
            Bench.due("the night at " + hours, b.x.night(0, hours), 1);
            // one hour of city 1, the last one, is right behind the other city and ahead of it
            b.tell(Bench.TREATY, 0, "night 0 0 23;night 1 " + (hours - 1) + " " + (hours - 1) + ";");
            Bench.due("LEGAL with the last hour", b.x.row(0, 0, 0), 0);
            Bench.due("CARRYINGS with the last hour", b.x.row(0, 0, 1), 2);
            Bench.due("VALUE with the last hour", b.x.row(0, 0, 5), 1);
        }
    }

    // ---- sleep ----

    /** One of each city, whose NEED and LIGHT the dark hours are one less than, just as many as, one more than. */
    private static void sleepJustSo() {
        for (int hours : new int[] {4, 12, 13, 24}) {
            for (int dark = 0; dark <= hours; dark++) {
                String rest = dark < hours ? "night 1 " + dark + " " + (hours - 1) + ";" : "";
                Bench b = told("", dark > 0 ? "night 0 0 " + (dark - 1) + ";" + rest : rest);
                for (int d = -1; d <= 1; d++) {
                    int need = Math.max(0, Math.min(12, dark + d));
                    int light = Math.max(0, Math.min(12, hours - dark + d));
                    String land = "hours " + hours + ";cross 0;person 0 " + need + " 0;person 0 0 " + light + ";person 1 "
                            + light + " 0;person 1 0 " + need + ";";
                    b.tell(Bench.LAND, 0, land);
                    boolean enough = need <= dark;
                    boolean bright = light <= hours - dark;
                    int not = (enough ? 0 : 1) + (bright ? 0 : 2) + (bright ? 0 : 4) + (enough ? 0 : 8);
                    Bench.due("who do not SLEEP by " + dark + " in " + land, b.x.row(0, 0, 7), not);
                    Bench.due("all SLEEP by " + dark + " in " + land, b.x.row(0, 0, 4), not == 0 ? 1 : 0);
                }
            }
        }
    }

    private static long choose(int n, int k) {
        java.math.BigInteger found = java.math.BigInteger.ONE;
        for (int i = 0; i < k; i++) {
            found = found.multiply(java.math.BigInteger.valueOf(n - i)).divide(java.math.BigInteger.valueOf(i + 1));
        }
        return found.longValueExact();
    }

    /** Every NEED and LIGHT of one: with CROSS 0 the dark hours may be any so many. */
    private static void waysJustSo() {
        for (int hours : new int[] {4, 5, 12, 23, 24}) {
            for (int need = 0; need <= 12; need++) {
                for (int light = 0; light <= 12; light++) {
                    long ways = 0;
                    for (int dark = need; dark <= hours - light; dark++) {
                        ways += choose(hours, dark);
                    }
                    int fewest = ways == 0 ? NONE : need == 0 || light == 0 ? 0 : 2;
                    Bench b = told("hours " + hours + ";cross 0;person 0 " + need + " " + light + ";", "");
                    Bench.due("WAYS by " + need + ", " + light + " of " + hours, b.x.ways(0), ways);
                    Bench.due("FEWEST by " + need + ", " + light + " of " + hours, b.x.best(0, 0), fewest);
                    Bench.due("MOST by " + need + ", " + light + " of " + hours, b.x.best(0, 1), ways == 0 ? NONE : 0);
                    Bench.due("CHEAP by " + need + ", " + light + " of " + hours, b.x.best(0, 2), ways == 0 ? NONE : 0);
                    Bench.due("row by " + need + ", " + light + " of " + hours, b.x.best(0, 10) == NONE, ways == 0);
                }
            }
        }
    }

    /** NEED of both that just goes into a day with two crossings, and one hour more that does not. */
    private static void waysOfBoth() {
        for (int cross = 0; cross <= 3; cross++) {
            for (int hours = 4; hours <= 24; hours++) {
                int room = Math.min(24, hours - 2 * cross);
                if (room < 2) {
                    continue;
                }
                int need = Math.min(12, room - 1);
                int other = room - need;
                String land = "hours " + hours + ";cross " + cross + ";person 0 " + need + " 0;person 1 ";
                Bench b = told(land + other + " 0;", "");
                // the dark hours of both are one behind the other, from any hour on
                Bench.due("WAYS of " + land + other, b.x.ways(0) >= hours, true);
                if (cross > 0 && other < 1 + 2 * cross) {
                    Bench.due("WAYS of " + land + other, b.x.ways(0), hours);
                }
                Bench.due("FEWEST of " + land + other, b.x.best(0, 0), 2);
                Bench.due("STRAIT of " + land + other, b.x.best(0, 3), 0);
                if (other < 12) {
                    b.tell(Bench.LAND, 0, land + (other + 1) + " 0;");
                    Bench.due("no WAYS of " + land + (other + 1), b.x.ways(0), 0);
                    Bench.due("no FEWEST of " + land + (other + 1), b.x.best(0, 0), NONE);
                    Bench.due("STRAIT of " + land + (other + 1), b.x.best(0, 3), cross == 0 ? 1 : 0);
                }
            }
        }
    }

    /** LIGHT that only more crossings give, up to as many as a day has room for. */
    private static void fewestByLight() {
        int[][] due = {{24, 1, 2}, {22, 1, 2}, {20, 1, 4}, {19, 1, 6}, {18, 1, 6}, {17, 1, 8}, {16, 1, 8}, {15, 1, NONE},
            {14, 1, NONE}, {24, 2, 2}, {18, 2, 4}, {16, 2, 4}, {15, 2, NONE}, {18, 3, 2}, {16, 3, 4}, {15, 3, NONE},
            {24, 0, 2}, {23, 0, NONE}};
        for (int[] one : due) {
            String land = "hours " + one[0] + ";cross " + one[1] + ";person 0 0 12;person 1 0 12;";
            Bench b = told(land, "");
            Bench.due("FEWEST of " + land, b.x.best(0, 0), one[2]);
            Bench.due("WAYS of " + land, b.x.ways(0) > 0, one[2] != NONE);
        }
    }

    private static void strait() {
        Bench b = told("", "");
        for (int hours = 4; hours <= 24; hours++) {
            for (int need = 0; need <= 12; need++) {
                for (int other = 0; other <= 12; other += need % 3 + 1) {
                    String land = "hours " + hours + ";person 0 " + need + " 12;person 0 " + need / 2 + " 0;person 1 0 12;person 1 "
                            + other + " 0;";
                    b.tell(Bench.LAND, 0, land);
                    Bench.due("STRAIT of " + land, b.x.best(0, 3), Math.max(0, need + other - hours));
                }
            }
        }
        b.tell(Bench.LAND, 0, "hours 4;");
        Bench.due("STRAIT without PEOPLE", b.x.best(0, 3), 0);
        b.tell(Bench.LAND, 0, "hours 4;person 1 12 0;person 1 12 0;");
        Bench.due("STRAIT of one city alone", b.x.best(0, 3), 8);
    }

    // ---- the best ----

    private static void dueBest(String land, int most, int cheap, int... row) {
        Bench b = told(land, "");
        Bench.due("MOST of " + land, b.x.best(0, 1), most);
        Bench.due("CHEAP of " + land, b.x.best(0, 2), cheap);
        for (int h = 0; h < row.length; h++) {
            Bench.due("the first row at " + h + " of " + land, b.x.best(0, 10 + h), row[h]);
        }
        Bench.due("the first row behind its end of " + land, b.x.best(0, 10 + row.length), NONE);
    }

    /** A greater value goes ahead of any price, a lesser price ahead of the first by rows. */
    private static void bestOfAlike() {
        dueBest("hours 4;", 0, 0, 0, 0, 0, 0);
        dueBest("hours 4;person 1 1 0;", 0, 0, 0, 2, 1, 2);
        dueBest("hours 4;person 1 1 0;toll 0 1;", 0, 0, 1, 1, 1, 1);
        dueBest("hours 4;person 1 1 0;toll 0 1;toll 2 1;", 0, 0, 1, 1, 1, 1);
        dueBest("hours 4;person 1 1 0;bearer 1 0;", 0, 0, 1, 1, 1, 1);
        dueBest("hours 4;person 1 1 0;bearer 1 0;bearer 0 0;", 0, 0, 0, 2, 1, 2);
        dueBest("hours 4;person 1 1 1;toll 0 1;", 0, 0, 2, 0, 2, 1);
        dueBest("hours 4;person 1 1 1;toll 1 1;", 0, 0, 0, 2, 1, 2);
        dueBest("hours 4;person 1 1 1;toll 0 1;toll 1 1;", 0, 1, 0, 2, 1, 2);
        dueBest("hours 4;person 1 1 1;toll 0 2;toll 1 1;", 0, 1, 2, 0, 2, 1);
        dueBest("hours 4;person 1 1 1;toll 0 99;toll 2 99;likes 0 2 2 1;bearer 99 0;", 1, 396, 0, 2, 1, 2);
        dueBest("hours 4;person 1 1 1;toll 0 99;toll 2 99;likes 0 2 2 1;likes 0 3 3 1;", 1, 0, 2, 0, 2, 1);
        dueBest("hours 4;person 1 1 3;", 0, 0, 0, 2, 1, 2);
        dueBest("hours 6;person 1 2 4;", 0, 0, 0, 0, 2, 1, 1, 2);
        dueBest("hours 6;person 1 3 3;", 0, 0, 0, 2, 1, 1, 1, 2);
        dueBest("hours 4;cross 0;person 0 0 0;person 1 0 0;likes 0 0 0 5;likes 1 0 0 5;", 5, 0, 0, 0, 0, 0);
        dueBest("hours 4;cross 0;person 0 0 0;person 1 0 0;likes 0 0 0 5;likes 1 0 0 6;", 6, 0, 1, 0, 0, 0);
    }

    /** A crossing over the day's end, of every length: it comes into a city at its first hours. */
    private static void bestRound() {
        dueBest("hours 4;cross 1;person 0 1 1;likes 0 1 1 9;likes 0 3 3 8;", 9, 0, 2, 0, 2, 1);
        dueBest("hours 6;cross 2;person 0 1 1;likes 0 2 2 9;", 9, 0, 2, 2, 0, 2, 2, 1);
        dueBest("hours 6;cross 2;person 0 1 1;likes 0 1 1 9;", 9, 0, 2, 0, 2, 2, 1, 2);
        dueBest("hours 8;cross 3;person 0 1 1;likes 0 3 3 9;", 9, 0, 2, 2, 2, 0, 2, 2, 2, 1);
        dueBest("hours 8;cross 3;person 0 1 1;likes 0 2 2 9;", 9, 0, 2, 2, 0, 2, 2, 2, 1, 2);
        dueBest("hours 8;cross 3;person 0 1 1;likes 0 2 2 9;toll 2 4;toll 6 5;", 9, 9, 2, 2, 0, 2, 2, 2, 1, 2);
        dueBest("hours 5;cross 0;person 0 1 1;likes 0 4 4 9;toll 4 7;", 9, 0, 0, 0, 1, 0, 0);
        dueBest("hours 5;cross 0;person 0 1 2;likes 0 4 4 9;toll 0 7;toll 4 7;", 9, 0, 0, 1, 1, 0, 0);
    }

    // ---- books ----

    private static String spells(int hours, int where) {
        StringBuilder s = new StringBuilder();
        for (int left = hours; left > 0; left -= 24) {
            s.append("at ").append(where).append(' ').append(Math.min(24, left)).append(';');
        }
        return s.toString();
    }

    /** Books of 0 to 96 hours: as many days as are whole, and of the next one nothing is told. */
    private static void wholeDays() {
        for (int hours = 4; hours <= 24; hours++) {
            Bench b = told("hours " + hours + ";person 0 0 0;person 1 0 4;person 1 1 0;", "");
            for (int length = 0; length <= 96; length++) {
                Bench.due("book of " + length, b.tell(Bench.BOOK, length == 0 ? NONE : 0, spells(length, 0)), 0);
                int whole = length / hours;
                Bench.due("whole days of " + length + " by " + hours, b.x.days(0, 0, 0), whole);
                Bench.due("hours in city 0", b.x.days(0, 0, 2), length);
                Bench.due("hours in city 1", b.x.days(0, 0, 3), 0);
                if (whole > 0) {
                    Bench.due("SLEPT of the first", b.x.days(0, 0, 100), 3);
                    Bench.due("SLEPT of the last of " + length + " by " + hours, b.x.days(0, 0, 99 + whole), 3);
                }
                Bench.due("SLEPT of no whole day of " + length + " by " + hours, b.x.days(0, 0, 100 + whole), -2);
            }
        }
    }

    /** Three days; in the second one so many hours of dark, the others of it without. */
    private static void sleptJustSo() {
        for (int hours : new int[] {4, 12, 24}) {
            for (int dark = 1; dark < hours; dark++) {
                String book = "at 0 " + hours + ";at 0 " + dark + ";at 1 " + (hours - dark) + ";at 1 " + hours + ";";
                for (int d = -1; d <= 1; d++) {
                    int need = Math.max(0, Math.min(12, dark + d));
                    int light = Math.max(0, Math.min(12, hours - dark + d));
                    String land = "hours " + hours + ";person 0 " + need + " 0;person 0 0 " + light + ";person 1 " + light
                            + " 0;person 1 0 " + need + ";";
                    Bench b = told(land, "");
                    Bench.due(book, b.tell(Bench.BOOK, book), 0);
                    int first = 1 | (light == 0 ? 2 : 0) | (light == 0 ? 4 : 0) | 8;
                    int last = (need == 0 ? 1 : 0) | 2 | 4 | (need == 0 ? 8 : 0);
                    int second = (need <= dark ? 1 + 8 : 0) + (light <= hours - dark ? 2 + 4 : 0);
                    Bench.due("SLEPT ahead of " + dark + " in " + land, b.x.days(0, 0, 100), first);
                    Bench.due("SLEPT by " + dark + " in " + land, b.x.days(0, 0, 101), second);
                    Bench.due("SLEPT behind " + dark + " in " + land, b.x.days(0, 0, 102), last);
                }
            }
        }
    }

    /** All books of up to six spells of one hour, by every CROSS; a book does not go round. */
    private static void villages() {
        for (int cross = 0; cross <= 3; cross++) {
            Bench b = told("cross " + cross + ";", "");
            b.tell(Bench.BOOK, "");
            for (int length = 0; length <= 6; length++) {
                for (int code = 0; code < Math.pow(3, length); code++) {
                    int[] track = rowOf(code, length);
                    StringBuilder book = new StringBuilder();
                    StringBuilder stays = new StringBuilder();
                    for (int place : track) {
                        book.append("at ").append(place).append(" 1;");
                        stays.append(place);
                    }
                    b.tell(Bench.BOOK, 0, book.toString());
                    int due = 0;
                    for (String stay : stays.toString().split("[01]")) {
                        due += stay.length() > cross ? 1 : 0;
                    }
                    Bench.due("VILLAGES of " + book + " by " + cross, b.x.days(0, 0, 1), due);
                }
            }
            for (int stay = 1; stay <= 24; stay++) {
                int due = stay > cross ? 1 : 0;
                for (String book : List.of("at 2 " + stay + ";", "at 0 1;at 2 " + stay + ";", "at 2 " + stay + ";at 1 1;")) {
                    b.tell(Bench.BOOK, 0, book);
                    Bench.due("VILLAGES of " + book + " by " + cross, b.x.days(0, 0, 1), due);
                }
                b.tell(Bench.BOOK, 0, "at 2 " + stay + ";at 0 23;at 2 " + stay + ";at 1 1;at 2 " + stay + ";");
                Bench.due("three times VILLAGES of " + stay + " by " + cross, b.x.days(0, 0, 1), 3 * due);
            }
        }
    }

    /** Four days of a row as it is due, but for one hour of the 96. */
    private static void breachAtEveryHour() {
        int[] row = new int[24];
        for (int h = 0; h < 24; h++) {
            row[h] = h < 6 ? 0 : h < 8 ? 2 : h < 20 ? 1 : 2;
        }
        Bench b = told("hours 24;cross 2;", "night 0 0 5;night 1 8 19;");
        b.tell(Bench.BOOK, "");
        for (int at = 0; at <= 96; at++) {
            int[] track = new int[96];
            for (int i = 0; i < 96; i++) {
                track[i] = i == at ? (row[i % 24] + 1) % 3 : row[i % 24];
            }
            Bench.due("a book with a breach at " + at, b.tell(Bench.BOOK, 0, bookOf(track)), 0);
            int was = at < 96 ? row[at % 24] : 2;
            int is = at < 96 ? (was + 1) % 3 : 2;
            Bench.due("BREACH at " + at, b.x.breach(0, 0, 0, 0), at < 96 ? at : NONE);
            Bench.due("OWED to city 0 by " + at, b.x.breach(0, 0, 0, 1), (was == 0 ? 1 : 0) - (is == 0 ? 1 : 0));
            Bench.due("OWED to city 1 by " + at, b.x.breach(0, 0, 0, 2), (was == 1 ? 1 : 0) - (is == 1 ? 1 : 0));
        }
    }

    private static String bookOf(int[] track) {
        StringBuilder s = new StringBuilder();
        int from = 0;
        for (int i = 1; i <= track.length; i++) {
            if (i == track.length || track[i] != track[from] || i - from == 24) {
                s.append("at ").append(track[from]).append(' ').append(i - from).append(';');
                from = i;
            }
        }
        return s.toString();
    }

    /** From nothing to all of 96 hours, on either side; an empty book owes nothing. */
    private static void owed() {
        Bench b = told("hours 5;", "night 0 0 23;");
        b.tell(Bench.BOOK, "");
        for (int what = 0; what < 3; what++) {
            Bench.due("breach of an empty book, " + what, b.x.breach(0, 0, 0, what), what == 0 ? NONE : 0);
        }
        for (int hours = 1; hours <= 96; hours++) {
            b.tell(Bench.BOOK, 0, spells(hours, 1));
            Bench.due("BREACH at once by " + hours, b.x.breach(0, 0, 0, 0), 0);
            Bench.due("OWED to city 0 by " + hours, b.x.breach(0, 0, 0, 1), hours);
            Bench.due("OWED to city 1 by " + hours, b.x.breach(0, 0, 0, 2), -hours);
            b.tell(Bench.BOOK, 0, spells(hours, 0));
            Bench.due("no BREACH by " + hours, b.x.breach(0, 0, 0, 0), NONE);
            Bench.due("nothing OWED by " + hours, b.x.breach(0, 0, 0, 1), 0);
        }
    }
}
