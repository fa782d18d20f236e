/** Promises 25 to 27 at their edges: every row of a short day, hours that go round and round, seeds of any sign. */
final class ErrandEdgesTest {
    private static final int NONE = NightBridge.NONE;

    public static void main(String[] args) {
        everySmallErrand();
        errandsJustSo();
        errandsRound();
        everySmallMeeting();
        meetingsRound();
        seeds();
        bearersInTurn();
        putDownAnHour();
        nightsJustDarkEnough();
        theDaysEnd();
        Bench.close("ErrandEdgesTest");
    }

    private static Bench told(String land, String treaty) {
        Bench b = new Bench();
        Bench.due(land, b.tell(Bench.LAND, land), 0);
        Bench.due(treaty, b.tell(Bench.TREATY, treaty), 0);
        return b;
    }

    private static int[] rowOf(int code) {
        int[] row = new int[4];
        for (int h = 0, rest = code; h < 4; h++, rest /= 3) {
            row[h] = rest % 3;
        }
        return row;
    }

    private static String treatyOf(int[] row) {
        StringBuilder s = new StringBuilder();
        for (int h = 0; h < row.length; h++) {
            s.append("night ").append(row[h]).append(' ').append(h).append(' ').append(h).append(';');
        }
        return s.toString();
    }

    // ---- errands ----

    /** All rows of four hours, by every WALK, for every n, from every hour, of one of each city. */
    private static void everySmallErrand() {
        for (int walk = 1; walk <= 4; walk++) {
            Bench b = told("hours 4;walk " + walk + ";person 0 0 0;person 1 0 0;", "");
            for (int code = 0; code < 81; code++) {
                int[] row = rowOf(code);
                b.tell(Bench.TREATY, 0, treatyOf(row));
                for (int n = 1; n <= 12; n++) {
                    for (int hour = 0; hour < 4; hour++) {
                        for (int city = 0; city < 2; city++) {
                            int wait = NONE;
                            for (int w = 11; w >= 0; w--) {
                                wait = goes(row, city, hour + w, walk, n) ? w : wait;
                            }
                            String what = " by " + treatyOf(row) + "walk " + walk + " of " + city + " for " + n + " from " + hour;
                            Bench.due("wait" + what, b.x.errand(0, 0, city, hour, n, true), wait);
                            Bench.due("ERRAND" + what, b.x.errand(0, 0, city, hour, n, false),
                                    wait == NONE ? NONE : wait + walk + n + walk);
                        }
                    }
                }
            }
        }
    }

    private static boolean goes(int[] row, int city, int leaves, int walk, int n) {
        boolean light = row[leaves % 4] != city && row[(leaves + walk + n + walk) % 4] != city;
        for (int i = 0; i < n; i++) {
            light &= row[(leaves + walk + i) % 4] != 1 - city;
        }
        return light;
    }

    private static void dueErrand(String land, String treaty, int hour, int n, int hours, int wait) {
        Bench b = told(land + "person 0 0 0;", treaty);
        String what = " of " + land + treaty + " from " + hour + " for " + n;
        Bench.due("ERRAND" + what, b.x.errand(0, 0, 0, hour, n, false), hours);
        Bench.due("wait" + what, b.x.errand(0, 0, 0, hour, n, true), wait);
    }

    /** In a day of 24 hours, of one of city 0: each hour that must be light, and those just beside it. */
    private static void errandsJustSo() {
        String land = "hours 24;walk 3;";
        // leaves at 5, is there from 8 to 11, at home at 15
        dueErrand(land, "night 0 5 5;", 5, 4, 11, 1);
        dueErrand(land, "night 0 4 4;night 0 6 14;night 0 16 23;", 5, 4, 10, 0);
        dueErrand(land, "night 0 15 15;", 5, 4, 11, 1);
        dueErrand(land, "night 1 0 7;night 1 12 23;", 5, 4, 10, 0);
        dueErrand(land, "night 1 0 7;night 1 12 23;", 5, 5, NONE, NONE);
        dueErrand(land, "night 1 0 7;night 1 12 23;", 6, 4, 10 + 23, 23);
        dueErrand(land, "night 1 8 8;", 5, 4, 14 - 3, 1);
        dueErrand(land, "night 1 11 11;", 5, 4, 10 + 4, 4);
        dueErrand(land, "night 1 12 12;", 5, 4, 10, 0);
        dueErrand(land, "night 1 7 7;", 5, 4, 10, 0);
        // dark in his own city on the way and while he is away, in the other one on the way
        dueErrand(land, "night 0 6 14;", 5, 4, 10, 0);
        dueErrand(land, "night 1 5 7;night 1 12 15;", 5, 4, 10, 0);
        for (int walk = 1; walk <= 4; walk++) {
            for (int n = 1; n <= 12; n++) {
                dueErrand("hours 24;walk " + walk + ";", "", 0, n, 2 * walk + n, 0);
                dueErrand("hours 24;walk " + walk + ";", "night 0 0 2;", 0, n, 2 * walk + n + 3, 3);
            }
        }
    }

    /** Hours behind the day's end are the next day's first ones, in as many days as it takes. */
    private static void errandsRound() {
        dueErrand("hours 24;walk 1;", "night 0 0 22;", 0, 1, NONE, NONE);
        dueErrand("hours 24;walk 4;", "night 0 4 22;", 23, 12, 4 + 20, 4);
        dueErrand("hours 24;walk 4;", "night 0 3 22;", 23, 12, NONE, NONE);
        dueErrand("hours 24;walk 1;", "night 0 3 22;", 23, 2, NONE, NONE);
        dueErrand("hours 24;walk 1;", "night 0 3 22;", 23, 1, 3, 0);
        dueErrand("hours 24;walk 1;", "night 0 2 22;", 23, 1, NONE, NONE);
        dueErrand("hours 4;walk 4;", "night 0 1 3;", 1, 12, 3 + 20, 3);
        dueErrand("hours 4;walk 4;", "night 0 1 3;night 1 0 0;", 1, 12, NONE, NONE);
        dueErrand("hours 5;walk 4;", "night 0 1 4;", 1, 12, 4 + 20, 4);
        dueErrand("hours 6;walk 4;", "night 0 1 5;", 1, 12, NONE, NONE);
        dueErrand("hours 4;walk 3;", "night 1 0 0;night 1 2 3;", 0, 1, 2 + 7, 2);
        dueErrand("hours 4;walk 3;", "night 1 0 0;night 1 2 3;", 3, 1, 3 + 7, 3);
        dueErrand("hours 4;walk 3;", "night 1 0 0;night 1 2 3;", 0, 2, NONE, NONE);
    }

    // ---- meetings ----

    private static void everySmallMeeting() {
        Bench b = told("hours 4;person 0 0 0;person 1 0 0;person 0 0 0;person 1 0 0;", "");
        for (int code = 0; code < 81; code++) {
            int[] row = rowOf(code);
            b.tell(Bench.TREATY, 0, treatyOf(row));
            for (int hour = 0; hour < 4; hour++) {
                for (int one = 0; one < 4; one++) {
                    for (int other = 0; other < 4; other++) {
                        int hours = NONE;
                        for (int w = 7; w >= 0; w--) {
                            int place = row[(hour + w) % 4];
                            hours = place != one % 2 && place != other % 2 ? w : hours;
                        }
                        Bench.due("MEET of " + one + " and " + other + " from " + hour + " by " + treatyOf(row),
                                b.x.meet(0, 0, one, other, hour), hours);
                    }
                }
            }
        }
    }

    /** The only hour light for both is the one just ahead: it is reached over the day's end. */
    private static void meetingsRound() {
        for (int hours : new int[] {4, 13, 24}) {
            for (int hour = 0; hour < hours; hour++) {
                int light = (hour + hours - 1) % hours;
                String treaty = "night 0 0 23;night 1 " + hour + " 23;night 2 " + light + " " + light + ";";
                Bench b = told("hours " + hours + ";person 0 0 0;person 1 0 0;", treaty);
                Bench.due("MEET a day but one hour on from " + hour, b.x.meet(0, 0, 0, 1, hour), hours - 1);
                Bench.due("MEET at once at " + light, b.x.meet(0, 0, 0, 1, light), 0);
            }
            Bench b = told("hours " + hours + ";person 0 0 0;person 1 0 0;", "night 0 0 1;night 1 2 23;");
            Bench.due("MEET never", b.x.meet(0, 0, 0, 1, hours - 1), NONE);
            Bench.due("MEET of one city's", b.x.meet(0, 0, 1, 1, hours - 1), 1);
            Bench.due("MEET of the other city's", b.x.meet(0, 0, 0, 0, 0), 2);
        }
    }

    // ---- years by a seed ----

    /** One bearer of every TIRED, two carryings a day, by numbers of 32 bits without sign. */
    private static void seeds() {
        int[] seeds = {0, 1, -1, 2, 12345, 1 << 15, 1 << 16, (1 << 16) - 1, 1 << 31, Integer.MAX_VALUE, -12345, 0xdeadbeef,
            1103515245, 1664525};
        for (int tired = 0; tired <= 10; tired++) {
            Bench b = told("hours 4;person 0 1 0;person 1 1 0;bearer 9 " + tired + ";", "night 0 0 0;night 1 2 2;");
            for (int seed : seeds) {
                for (int days : new int[] {1, 2, 59, 60}) {
                    long x = seed & 0xffffffffL;
                    int[] villages = new int[2];
                    for (int i = 0; i < 2 * days; i++) {
                        x = (x * 1103515245L + 12345) % 4294967296L;
                        villages[i % 2] += x / 65536 % 10 < tired ? 1 : 0;
                    }
                    String what = " by " + seed + ", TIRED " + tired + ", days " + days;
                    Bench.due("VILLAGES" + what, b.x.drawn(0, 0, seed, days, 0), villages[0] + villages[1]);
                    Bench.due("CARRYINGS" + what, b.x.drawn(0, 0, seed, days, 1), 2 * days);
                    Bench.due("days of city 0" + what, b.x.drawn(0, 0, seed, days, 10), days - villages[0]);
                    Bench.due("days of city 1" + what, b.x.drawn(0, 0, seed, days, 11), days - villages[1]);
                }
            }
        }
    }

    /** Of so many bearers one alone is tired, and always: what he carries is put down, from day to day. */
    private static void bearersInTurn() {
        String[] treaties = {"night 0 0 23;", "night 0 0 0;night 1 2 2;", "night 0 0 0;night 1 2 2;night 0 4 4;night 1 6 6;"};
        for (int carryings = 0; carryings <= 4; carryings += 2) {
            for (int bearers = 1; bearers <= 6; bearers++) {
                for (int weak = 0; weak < bearers; weak++) {
                    String land = "hours 8;person 1 " + carryings / 2 + " 0;" + Bench.times(weak, "bearer 1 0;") + "bearer 1 10;"
                            + Bench.times(bearers - weak - 1, "bearer 1 0;");
                    Bench b = told(land, treaties[carryings / 2]);
                    for (int days : new int[] {1, 2, 3, 7, 60}) {
                        int villages = 0;
                        int bad = 0;
                        int lastBad = -1;
                        for (int i = 0; i < carryings * days; i++) {
                            boolean down = i % bearers == weak;
                            villages += down ? 1 : 0;
                            // every second one comes into city 1, and that day has too few hours of dark there
                            bad += down && i % 2 == 1 && i / carryings != lastBad ? 1 : 0;
                            lastBad = down && i % 2 == 1 ? i / carryings : lastBad;
                        }
                        Bench.due("good days by the one of " + land + " in " + days, b.x.drawn(0, 0, 99, days, 10), days - bad);
                        Bench.due("VILLAGES of the one of " + land + " in " + days, b.x.drawn(0, 0, 99, days, 0), villages);
                        Bench.due("CARRYINGS of " + land + " in " + days, b.x.drawn(0, 0, 99, days, 1), carryings * days);
                    }
                }
            }
        }
        // he who is never tired draws a number, too
        Bench b = told("hours 4;bearer 1 0;bearer 1 9;", "night 0 0 0;night 1 2 2;");
        long x = 1;
        int villages = 0;
        for (int i = 0; i < 120; i++) {
            x = (x * 1103515245L + 12345) % 4294967296L;
            villages += i % 2 == 1 && x / 65536 % 10 < 9 ? 1 : 0;
            if (i % 2 == 1) {
                Bench.due("VILLAGES of every second in " + (i + 1) / 2, b.x.drawn(0, 0, 1, (i + 1) / 2, 0), villages);
            }
        }
    }

    private static void dueDays(String land, String treaty, int person, int days) {
        Bench b = told(land, treaty);
        Bench.due("days of " + person + " of " + land + treaty, b.x.drawn(0, 0, 3, 60, 10 + person), days);
    }

    /** Put down each time: each stay has one hour of dark less, one of an hour none; nobody else has it more. */
    private static void putDownAnHour() {
        for (int stay = 1; stay <= 6; stay++) {
            for (int need = 0; need <= 7; need++) {
                String people = "hours 12;cross 0;person 0 " + need + " 0;person 1 " + need + " 0;";
                String treaty = "night 0 0 " + (stay - 1) + ";night 1 " + stay + " 11;";
                dueDays(people + "bearer 0 10;", treaty, 0, need <= stay - 1 ? 60 : 0);
                dueDays(people + "bearer 0 10;", treaty, 1, need <= 11 - stay ? 60 : 0);
                dueDays(people + "bearer 0 0;", treaty, 0, need <= stay ? 60 : 0);
                dueDays(people, treaty, 0, need <= stay ? 60 : 0);
                dueDays(people, treaty, 1, need <= 12 - stay ? 60 : 0);
            }
        }
        // two stays of a city in a day, each an hour shorter
        String two = "night 0 0 2;night 1 3 5;night 0 6 8;night 1 9 11;";
        dueDays("cross 0;person 0 4 0;bearer 0 10;", two, 0, 60);
        dueDays("cross 0;person 0 5 0;bearer 0 10;", two, 0, 0);
        // LIGHT is not asked
        dueDays("cross 0;person 0 4 12;bearer 0 10;", two, 0, 60);
    }

    /** With NEED as many as the dark hours, just the days in which none of them is put down. */
    private static void nightsJustDarkEnough() {
        for (int need = 0; need <= 5; need++) {
            Bench b = told("hours 8;person 0 " + need + " 0;bearer 0 5;", "night 0 0 3;night 1 5 6;");
            long x = 77;
            int good = 0;
            for (int day = 1; day <= 60; day++) {
                x = (x * 1103515245L + 12345) % 4294967296L;
                int dark = x / 65536 % 10 < 5 ? 3 : 4;
                x = (x * 1103515245L + 12345) % 4294967296L;
                good += dark >= need ? 1 : 0;
                Bench.due("days with NEED " + need + " in " + day, b.x.drawn(0, 0, 77, day, 10), good);
            }
        }
    }

    /** A stay that begins with the last hour, or with the first one, round; the first day has its CARRYING as well. */
    private static void theDaysEnd() {
        for (int days : new int[] {1, 2, 60}) {
            Bench b = told("hours 6;person 0 2 0;person 1 2 0;bearer 0 10;bearer 0 0;", "night 0 5 5;night 0 0 0;night 1 2 3;");
            // by their hours: into city 1 at 2, into city 0 at 5, each day
            Bench.due("CARRYINGS over the end", b.x.drawn(0, 0, 0, days, 1), 2 * days);
            Bench.due("VILLAGES over the end", b.x.drawn(0, 0, 0, days, 0), days);
            Bench.due("days of city 0 over the end", b.x.drawn(0, 0, 0, days, 10), days);
            Bench.due("days of city 1 over the end", b.x.drawn(0, 0, 0, days, 11), 0);
            b.tell(Bench.TREATY, 0, "night 0 0 1;night 1 3 4;");
            // into city 0 at 0, into city 1 at 3
            Bench.due("CARRYINGS at the beginning", b.x.drawn(0, 0, 0, days, 1), 2 * days);
            Bench.due("days of city 0 from the beginning", b.x.drawn(0, 0, 0, days, 10), 0);
            Bench.due("days of city 1 from the beginning", b.x.drawn(0, 0, 0, days, 11), days);
        }
    }
}
