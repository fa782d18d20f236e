import java.util.function.IntToLongFunction;

/** Promises 6 to 30: of each argument of each call the last that is taken and the first that is not, on either side. */
final class CallEdgesTest {
    private static final int NONE = NightBridge.NONE;

    // its rows by both treaties: 0 2 1 2 and 1 1 1 2; of the other land 0 2 1 2 2 and 1 1 1 2 2
    private static final String LAND = "hours 4;person 0 1 1;person 1 1 1;likes 0 0 0 3;likes 1 2 2 5;bearer 7 5;toll 2 9;";
    private static final String OTHER_LAND = "hours 5;cross 0;crowd 2;walk 2;person 1 2 0;likes 0 3 4 4;bearer 3 2;bearer 4 9;toll 4 8;";
    private static final String[][] TOLD = {{LAND, OTHER_LAND}, {"night 0 0 0;night 1 2 2;", "night 1 0 2;"},
        {"at 0 1;at 2 1;at 1 1;at 2 1;at 0 4;", "at 1 4;"}, {"saw 0 0 dark;", "saw 1 2 light;saw 0 1 light;"},
        {"worth 7 4;worth 1 1;", "worth 7 3;"}};
    private static final String LEAST_LAND = "hours 4;cross 0;walk 1;";

    private interface Call {
        long of(NightBridge x, int number);
    }

    public static void main(String[] args) {
        lands();
        landsOfCuts();
        landsOfPeopleAndBearers();
        treaties();
        books();
        sights();
        games();
        land();
        person();
        night();
        row();
        spell();
        days();
        breach();
        best();
        worth();
        cut();
        envy();
        gain();
        moves();
        teams();
        hire();
        seen();
        stolen();
        gameOfSets();
        errand();
        meet();
        drawn();
        image();
        Bench.close("CallEdgesTest");
    }

    // ---- which land, treaty, book, sight, game ----

    /** Two of each sort, but of one sort so many. */
    private static Bench told(int sort, int many) {
        Bench b = new Bench();
        for (int each = 0; each < TOLD.length; each++) {
            for (int i = 0; i < (each == sort ? many : 2); i++) {
                Bench.due("text " + TOLD[each][i], b.tell(each, TOLD[each][i]), i);
            }
        }
        return b;
    }

    private static Bench told() {
        return told(Bench.LAND, 2);
    }

    /** What both of a sort are due to answer, when none, one, and both are told. */
    private static void dueOfBoth(int sort, String what, Call call, long refused, long first, long second) {
        long[][] due = {{}, {first}, {first, second}};
        for (int many = 0; many <= 2; many++) {
            NightBridge x = told(sort, many).x;
            Bench.dueFrom(what + " with " + many, n -> call.of(x, n), 0, refused, due[many]);
        }
    }

    private static void lands() {
        dueOfBoth(Bench.LAND, "land", (x, l) -> x.land(l, 0), NONE, 4, 5);
        dueOfBoth(Bench.LAND, "person", (x, l) -> x.person(l, 0, 0), NONE, 0, 1);
        dueOfBoth(Bench.LAND, "row", (x, l) -> x.row(l, 0, 5), NONE, 8, 0);
        dueOfBoth(Bench.LAND, "days", (x, l) -> x.days(l, 0, 0), -2, 2, 1);
        dueOfBoth(Bench.LAND, "breach", (x, l) -> x.breach(l, 0, 0, 0), -1000, 5, 4);
        dueOfBoth(Bench.LAND, "ways", (x, l) -> x.ways(l), NONE, 4, 26);
        dueOfBoth(Bench.LAND, "best", (x, l) -> x.best(l, 1), NONE, 8, 8);
        dueOfBoth(Bench.LAND, "best 0", (x, l) -> x.best(l, 0), NONE, 2, 0);
        dueOfBoth(Bench.LAND, "best 3", (x, l) -> x.best(l, 3), NONE, 0, 0);
        dueOfBoth(Bench.LAND, "best 10", (x, l) -> x.best(l, 10), NONE, 0, 1);
    }

    private static void landsOfCuts() {
        dueOfBoth(Bench.LAND, "worth", (x, l) -> x.worth(l, 1, -1), NONE, 5, 8);
        dueOfBoth(Bench.LAND, "turns", (x, l) -> x.cut(l, 0, 0), NONE, 0b1100, 0b11000);
        dueOfBoth(Bench.LAND, "knife", (x, l) -> x.cut(l, 1, 0), NONE, 0b1110, 0b11110);
        dueOfBoth(Bench.LAND, "even", (x, l) -> x.cut(l, 2, 0), NONE, 0b0100, 0);
        dueOfBoth(Bench.LAND, "envy", (x, l) -> x.envy(l, 1, 0), NONE, 5, 8);
    }

    private static void landsOfPeopleAndBearers() {
        dueOfBoth(Bench.LAND, "gain", (x, l) -> x.gain(l, 1, 0, 1), -1000, 3, 0);
        dueOfBoth(Bench.LAND, "moves", (x, l) -> x.moves(l, 1, 1), -2, 3, 1);
        dueOfBoth(Bench.LAND, "teams", (x, l) -> x.teams(l, 1, 0), NONE, 1, 41);
        dueOfBoth(Bench.LAND, "hire", (x, l) -> x.hire(l, 50, false), NONE, 7, 3);
        dueOfBoth(Bench.LAND, "hire who", (x, l) -> x.hire(l, 50, true), NONE, 1, 1);
        dueOfBoth(Bench.LAND, "stolen", (x, l) -> x.stolen(l, 0, 0, 0), -2, 7, 0);
        dueOfBoth(Bench.LAND, "errand", (x, l) -> x.errand(l, 0, 0, 0, 1, false), NONE, 5, 5);
        dueOfBoth(Bench.LAND, "errand wait", (x, l) -> x.errand(l, 0, 0, 0, 1, true), NONE, 2, 0);
        dueOfBoth(Bench.LAND, "meet", (x, l) -> x.meet(l, 0, 0, 0, 0), NONE, 1, 0);
        dueOfBoth(Bench.LAND, "drawn", (x, l) -> x.drawn(l, 1, 0, 7, 10), -2, 0, 7);
    }

    private static void treaties() {
        dueOfBoth(Bench.TREATY, "night", (x, t) -> x.night(t, 0), NONE, 0, 1);
        dueOfBoth(Bench.TREATY, "row", (x, t) -> x.row(0, t, 5), NONE, 8, 5);
        dueOfBoth(Bench.TREATY, "breach", (x, t) -> x.breach(0, 0, t, 0), -1000, 5, 0);
        dueOfBoth(Bench.TREATY, "gain", (x, t) -> x.gain(0, t, 0, 1), -1000, 0, 3);
        dueOfBoth(Bench.TREATY, "moves", (x, t) -> x.moves(0, t, 1), -2, 2, 3);
        dueOfBoth(Bench.TREATY, "stolen", (x, t) -> x.stolen(0, t, 0, 0), -2, 7, 0);
        dueOfBoth(Bench.TREATY, "errand", (x, t) -> x.errand(0, t, 0, 3, 1, true), NONE, 0, 3);
        dueOfBoth(Bench.TREATY, "meet", (x, t) -> x.meet(0, t, 0, 1, 0), NONE, 1, 3);
        dueOfBoth(Bench.TREATY, "drawn", (x, t) -> x.drawn(0, t, 0, 7, 1), -2, 14, 0);
    }

    private static void books() {
        dueOfBoth(Bench.BOOK, "spells", (x, b) -> x.spell(b, NONE, 1), -2, 8, 4);
        dueOfBoth(Bench.BOOK, "spell", (x, b) -> x.spell(b, 0, 0), -2, 0, 1);
        dueOfBoth(Bench.BOOK, "days", (x, b) -> x.days(0, b, 0), -2, 2, 1);
        dueOfBoth(Bench.BOOK, "breach", (x, b) -> x.breach(0, b, 0, 0), -1000, 5, 0);
    }

    private static void sights() {
        dueOfBoth(Bench.SIGHT, "how many seen", (x, s) -> x.seen(s, NONE, 0), -2, 1, 2);
        dueOfBoth(Bench.SIGHT, "seen", (x, s) -> x.seen(s, 0, 2), -2, 1, 0);
        dueOfBoth(Bench.SIGHT, "stolen", (x, s) -> x.stolen(0, 0, s, 3), -2, 0, 2);
    }

    private static void games() {
        dueOfBoth(Bench.GAME, "worth of a set", (x, g) -> x.game(g, 7, 0), -1000, 4, 3);
        dueOfBoth(Bench.GAME, "core", (x, g) -> x.game(g, 0, 0), -1000, 10, 10);
        dueOfBoth(Bench.GAME, "first of the core", (x, g) -> x.game(g, 0, 1), -1000, 1, 0);
    }

    // ---- what of it ----

    private static String greatest() {
        StringBuilder s = new StringBuilder("hours 24;cross 3;crowd 9;walk 4;");
        for (int p = 0; p < 10; p++) {
            s.append("person ").append(p % 2).append(' ').append(p + 3).append(' ').append(12 - p).append(';');
            s.append("likes ").append(p).append(" 0 23 ").append(p).append(";");
        }
        for (int c = 0; c < 6; c++) {
            s.append("bearer ").append(94 + c).append(' ').append(5 + c).append(';');
        }
        return s.append("toll 0 1;toll 22 98;toll 23 99;").toString();
    }

    private static Bench telling(String... texts) {
        Bench b = new Bench();
        for (String text : texts) {
            int sort = text.startsWith("night") ? Bench.TREATY : text.startsWith("at") ? Bench.BOOK
                    : text.startsWith("saw") ? Bench.SIGHT : text.startsWith("worth") ? Bench.GAME : Bench.LAND;
            Bench.due(text, b.tell(sort, text) >= 0, true);
        }
        return b;
    }

    private static void land() {
        NightBridge x = telling(greatest(), LEAST_LAND).x;
        int[][] due = new int[6 + 24 + 12][];
        int[] heads = {24, 3, 9, 4, 10, 6};
        for (int what = 0; what < 6; what++) {
            due[what] = new int[] {what, heads[what]};
            due[30 + what] = new int[] {50 + what, 94 + what};
            due[36 + what] = new int[] {60 + what, 5 + what};
        }
        for (int h = 0; h < 24; h++) {
            due[6 + h] = new int[] {10 + h, h == 0 ? 1 : h == 22 ? 98 : h == 23 ? 99 : 0};
        }
        Bench.dueOnly("the greatest land", what -> x.land(0, what), NONE, due);
        Bench.dueOnly("the least land", what -> x.land(1, what), NONE, new int[][] {{0, 4}, {1, 0}, {2, 0}, {3, 1}, {4, 0},
            {5, 0}, {10, 0}, {11, 0}, {12, 0}, {13, 0}});
        NightBridge y = told().x;
        Bench.dueOnly("a land of 5 hours", what -> y.land(1, what), NONE, new int[][] {{0, 5}, {1, 0}, {2, 2}, {3, 2}, {4, 1},
            {5, 2}, {10, 0}, {11, 0}, {12, 0}, {13, 0}, {14, 8}, {50, 3}, {51, 4}, {60, 2}, {61, 9}});
    }

    private static void person() {
        NightBridge x = telling(greatest(), LEAST_LAND).x;
        Bench.dueFrom("LIGHT in the greatest land", p -> x.person(0, p, 2), 0, NONE, 12, 11, 10, 9, 8, 7, 6, 5, 4, 3);
        Bench.dueFrom("nobody in the least land", p -> x.person(1, p, 2), 0, NONE);
        for (int p = 0; p < 10; p++) {
            int who = p;
            int[][] due = new int[27][];
            due[24] = new int[] {0, p % 2};
            due[25] = new int[] {1, p + 3};
            due[26] = new int[] {2, 12 - p};
            for (int h = 0; h < 24; h++) {
                due[h] = new int[] {10 + h, p};
            }
            Bench.dueOnly("person " + p, what -> x.person(0, who, what), NONE, due);
        }
        NightBridge y = told().x;
        Bench.dueFrom("CITY of two", p -> y.person(0, p, 0), 0, NONE, 0, 1);
        Bench.dueOnly("one of 4 hours", what -> y.person(0, 1, what), NONE,
                new int[][] {{0, 1}, {1, 1}, {2, 1}, {10, 0}, {11, 0}, {12, 5}, {13, 0}});
        Bench.dueOnly("one who is not there", what -> y.person(1, 1, what), NONE);
    }

    private static void night() {
        NightBridge x = telling("night 1 0 0;night 0 22 22;night 1 23 23;").x;
        Bench.dueFrom("night", h -> x.night(0, h), 0, NONE,
                1, 2, 2, 2, 2, 2, 2, 2, 2, 2, 2, 2, 2, 2, 2, 2, 2, 2, 2, 2, 2, 2, 0, 1);
        Bench.dueFrom("night of no treaty", h -> x.night(1, h), 0, NONE);
    }

    private static void row() {
        NightBridge x = told().x;
        Bench.dueFrom("row 0 2 1 2", what -> x.row(0, 0, what), 0, NONE, 1, 2, 1, 1, 1, 8, 9 + 7 + 7, 0);
        Bench.dueFrom("row 1 1 1 2", what -> x.row(0, 1, what), 0, NONE, 0, 0, 0, 3, 0, 5, 0, 1);
        Bench.dueFrom("row 0 2 1 2 2", what -> x.row(1, 0, what), 0, NONE, 0, 2, 1, 1, 0, 0, 3 + 3, 1);
        Bench.dueFrom("row 1 1 1 2 2", what -> x.row(1, 1, what), 0, NONE, 0, 0, 0, 3, 1, 0, 0, 0);
    }

    private static void spell() {
        StringBuilder s = new StringBuilder();
        long[] hours = new long[31];
        long[] where = new long[31];
        where[0] = 30;
        hours[0] = 60;
        for (int k = 0; k < 30; k++) {
            where[k + 1] = k % 3;
            hours[k + 1] = 1 + k % 3;
            s.append("at ").append(k % 3).append(' ').append(1 + k % 3).append(';');
        }
        NightBridge x = telling(s.toString()).x;
        Bench.dueFrom("where of SPELLS", k -> x.spell(0, k, 0), NONE, -2, where);
        Bench.dueFrom("hours of SPELLS", k -> x.spell(0, k, 1), NONE, -2, hours);
        Bench.dueFrom("what of all SPELLS", what -> x.spell(0, NONE, what), 0, -2, 30, 60);
        Bench.dueFrom("what of the last SPELL", what -> x.spell(0, 29, what), 0, -2, 2, 3);
        Bench.dueFrom("what of no SPELL", what -> x.spell(0, 30, what), 0, -2);
        NightBridge y = new Bench().x;
        y.text(Bench.BOOK, NONE);
        Bench.dueFrom("where of an empty BOOK", k -> y.spell(0, k, 0), NONE, -2, 0);
        Bench.dueFrom("hours of an empty BOOK", k -> y.spell(0, k, 1), NONE, -2, 0);
        Bench.dueFrom("of no BOOK", k -> y.spell(1, k, 0), NONE, -2);
    }

    private static void days() {
        NightBridge x = told().x;
        // 0 2 1 2 and 0 0 0 0; of 5 hours the first day alone is whole
        Bench.dueOnly("days of 4 hours", what -> x.days(0, 0, what), -2,
                new int[][] {{0, 2}, {1, 0}, {2, 5}, {3, 1}, {100, 3}, {101, 0}});
        Bench.dueOnly("days of 5 hours", what -> x.days(1, 0, what), -2, new int[][] {{0, 1}, {1, 2}, {2, 5}, {3, 1}, {100, 0}});
        Bench.dueOnly("one day", what -> x.days(0, 1, what), -2, new int[][] {{0, 1}, {1, 0}, {2, 0}, {3, 4}, {100, 0}});
        Bench.dueOnly("no whole day", what -> x.days(1, 1, what), -2, new int[][] {{0, 0}, {1, 0}, {2, 0}, {3, 4}});
        NightBridge y = telling(LEAST_LAND + "person 0 4 0;", "at 0 24;at 0 24;at 0 24;at 0 24;").x;
        int[][] due = new int[28][];
        due[24] = new int[] {0, 24};
        due[25] = new int[] {1, 0};
        due[26] = new int[] {2, 96};
        due[27] = new int[] {3, 0};
        for (int d = 0; d < 24; d++) {
            due[d] = new int[] {100 + d, 1};
        }
        Bench.dueOnly("24 days", what -> y.days(0, 0, what), -2, due);
    }

    private static void breach() {
        NightBridge x = told().x;
        Bench.dueFrom("breach", what -> x.breach(0, 0, 0, what), 0, -1000, 5, -3, 1);
        Bench.dueFrom("breach of no land", what -> x.breach(2, 0, 0, what), 0, -1000);
        Bench.dueFrom("breach of no book", what -> x.breach(0, 2, 0, what), 0, -1000);
        Bench.dueFrom("breach of no treaty", what -> x.breach(0, 0, -1, what), 0, -1000);
    }

    private static void best() {
        NightBridge x = told().x;
        Bench.dueOnly("best of 4 hours", what -> x.best(0, what), NONE, new int[][] {{0, 2}, {1, 8}, {2, 9 + 7 + 7}, {3, 0},
            {10, 0}, {11, 2}, {12, 1}, {13, 2}});
        // hours 3 and 4 in city 1; always there costs nothing
        Bench.dueOnly("best of 5 hours", what -> x.best(1, what), NONE, new int[][] {{0, 0}, {1, 8}, {2, 0}, {3, 0},
            {10, 1}, {11, 1}, {12, 1}, {13, 1}, {14, 1}});
        NightBridge y = telling("hours 4;person 0 3 0;person 1 2 0;", "hours 24;person 1 1 0;").x;
        Bench.dueOnly("best where none is", what -> y.best(0, what), NONE, new int[][] {{3, 1}});
        int[][] due = new int[28][];
        for (int h = 0; h < 24; h++) {
            // the first by rows that has the night in city 1 at all
            due[h] = new int[] {10 + h, h < 21 ? 0 : h == 22 ? 1 : 2};
        }
        due[24] = new int[] {0, 0};
        due[25] = new int[] {1, 0};
        due[26] = new int[] {2, 0};
        due[27] = new int[] {3, 0};
        Bench.dueOnly("best of 24 hours", what -> y.best(1, what), NONE, due);
    }

    private static void worth() {
        NightBridge x = told().x;
        Bench.dueFrom("worth to a city", city -> x.worth(0, city, -1), 0, NONE, 3, 5);
        Bench.dueFrom("worth to a city of land 1", city -> x.worth(1, city, -1), 0, NONE, 0, 8);
        NightBridge y = telling("hours 24;person 0 0 0;likes 0 0 23 9;").x;
        for (int h = 0; h < 32; h++) {
            Bench.due("worth of hour " + h, y.worth(0, 0, 1 << h), h < 24 ? 9 : 0);
            Bench.due("worth of hour " + h + " in 4", x.worth(0, 0, 1 << h), h == 0 ? 3 : 0);
        }
        Bench.due("worth of all bits", y.worth(0, 0, -1), 9 * 24);
        Bench.due("worth of the bits beyond", y.worth(0, 0, 0xff << 24), 0);
        Bench.due("worth of the last hour but bits beyond", y.worth(0, 0, 0xff8 << 20), 9);
    }

    private static void cut() {
        NightBridge x = told().x;
        Bench.dueFrom("how of a cut, city 0", how -> x.cut(0, how, 0), 0, NONE, 0b1100, 0b1110, 0b0100);
        Bench.dueFrom("how of a cut, city 1", how -> x.cut(0, how, 1), 0, NONE, 0b0110, 0b1110, 0b0100);
        Bench.dueFrom("who is first", city -> x.cut(0, 0, city), 0, NONE, 0b1100, 0b0110);
        Bench.dueFrom("who cuts", city -> x.cut(0, 1, city), 0, NONE, 0b1110, 0b1110);
        for (int city : new int[] {Integer.MIN_VALUE, -1, 0, 1, 2, Integer.MAX_VALUE}) {
            Bench.due("EVEN does not ask the city " + city, x.cut(0, 2, city), 0b0100);
        }
        for (int hours = 4; hours <= 24; hours++) {
            NightBridge y = telling("hours " + hours + ";person 0 0 0;person 1 0 0;likes 0 0 0 1;likes 1 1 1 1;").x;
            Bench.due("EVEN of HOURS " + hours, y.cut(0, 2, 9), hours <= 14 ? 0b10 : NONE);
            Bench.due("TURNS of HOURS " + hours, y.cut(0, 0, 0), turns(hours));
            // below 1 it has 1, of the others nothing: 1 apart for every k; below 2 city 1 has 1: so for city 0 k is 1
            Bench.due("KNIFE of HOURS " + hours, y.cut(0, 1, 0), (1 << hours) - 2);
        }
    }

    /** City 0 takes hour 0 and then the even ones, city 1 the odd ones. */
    private static int turns(int hours) {
        int cut = 0;
        for (int h = 1; h < hours; h += 2) {
            cut += 1 << h;
        }
        return cut;
    }

    private static void envy() {
        NightBridge x = told().x;
        Bench.dueFrom("envy of a city, all given to 1", city -> x.envy(0, city, 15), 0, NONE, 3, 0);
        Bench.dueFrom("envy of a city, nothing given to 1", city -> x.envy(0, city, 0), 0, NONE, 0, 5);
        for (int beyond : new int[] {16, 1 << 23, 1 << 24, 1 << 31, -16}) {
            Bench.due("envy of 0 by bits beyond " + beyond, x.envy(0, 0, beyond), 0);
            Bench.due("envy of 1 by bits beyond " + beyond, x.envy(0, 1, beyond), 5);
            Bench.due("envy of 0 by hour 0 and " + beyond, x.envy(0, 0, beyond | 1), 3);
        }
        // as much as its own, one more, one less
        NightBridge y = telling("hours 4;person 0 0 0;likes 0 0 0 4;likes 0 1 1 3;likes 0 2 2 1;").x;
        Bench.due("envy of as much", y.envy(0, 0, 0b0001), 0);
        Bench.due("envy of 6 by 2", y.envy(0, 0, 0b0011), 6);
        Bench.due("envy of 5 by 3", y.envy(0, 0, 0b0101), 2);
        Bench.due("no envy of 3 by 5", y.envy(0, 0, 0b0010), 0);
    }

    private static void gain() {
        NightBridge x = told().x;
        Bench.dueFrom("gain of one in 0", p -> x.gain(0, 0, p, 0), 0, -1000, 3, 0);
        Bench.dueFrom("gain of one in 1", p -> x.gain(0, 0, p, 1), 0, -1000, 0, 5);
        Bench.dueFrom("gain of 1 in a city", city -> x.gain(0, 0, 1, city), 0, -1000, 0, 5);
        Bench.dueFrom("gain of nobody", city -> x.gain(1, 0, 1, city), 0, -1000);
        NightBridge y = telling(greatest(), "night 1 0 23;").x;
        Bench.dueFrom("gain of ten in 1", p -> y.gain(0, 0, p, 1), 0, -1000, -45, -12, 3, 36, 51, 84, 99, 132, 147, 180);
        Bench.dueFrom("gain of ten in 0", p -> y.gain(0, 0, p, 0), 0, -1000, -36, -45, -36, -45, -36, -45, -36, -45, -36, -45);
    }

    private static void moves() {
        NightBridge x = told().x;
        dueMoves("two", what -> x.moves(0, 0, what), 0, 2, 1, 2);
        // all would live in city 1; without CROWD each by himself
        dueMoves("two by 1 1 1 2", what -> x.moves(0, 1, what), 1, 3, 1, 3);
        dueMoves("one", what -> x.moves(1, 0, what), 0, 1, 2, 0, 1);
        NightBridge y = telling(LEAST_LAND, "night 1 0 23;").x;
        dueMoves("nobody", what -> y.moves(0, 0, what), 0, 0, 1, 0);
        Bench.dueFrom("moves in no land", what -> y.moves(1, 0, what), 0, -2);
        Bench.dueFrom("moves by no treaty", what -> y.moves(0, 1, what), 0, -2);
    }

    /** ROUNDS, where all live then, how many RESTS, and these; behind the last of them there is none such. */
    private static void dueMoves(String who, IntToLongFunction moves, int... due) {
        for (int what = -130; what <= 1300; what++) {
            int rest = what - 100;
            long there = what >= 0 && what <= 2 ? due[what] : -2;
            Bench.due("moves of " + who + ", " + what, moves.applyAsLong(what),
                    rest < 0 ? there : rest < due[2] ? due[3 + rest] : NONE);
        }
        Bench.due("moves of " + who + ", the least what", moves.applyAsLong(Integer.MIN_VALUE), -2);
        Bench.due("moves of " + who + ", the greatest what", moves.applyAsLong(Integer.MAX_VALUE), NONE);
    }

    private static void teams() {
        NightBridge x = telling("bearer 0 1;bearer 0 2;bearer 0 3;", greatest()).x;
        // 1 - .006; {1} {2 3}: .9 * .94, {1 2} {3}: .98 * .7, {1 3} {2}: .97 * .8; .9 * .8 * .7
        Bench.dueFrom("N of TEAMS", k -> x.teams(0, k, 0), 1, NONE, 497, 423, 63);
        Bench.dueFrom("D of TEAMS", k -> x.teams(0, k, 1), 1, NONE, 500, 500, 125);
        Bench.dueFrom("the parting", k -> x.teams(0, k, 2), 1, NONE, 0, 0011, 0012);
        for (int k = 1; k <= 3; k++) {
            int many = k;
            long[] due = {new int[] {497, 423, 63}[k - 1], new int[] {500, 500, 125}[k - 1], new int[] {0, 0011, 0012}[k - 1]};
            Bench.dueFrom("what of TEAMS " + k, what -> x.teams(0, many, what), 0, NONE, due);
        }
        Bench.dueFrom("what of four TEAMS of three", what -> x.teams(0, 4, what), 0, NONE);
        // six: the last one is always tired, so he is with others; alone he puts it down for sure
        Bench.due("six TEAMS, N", x.teams(1, 6, 0), 0);
        Bench.due("six TEAMS, D", x.teams(1, 6, 1), 1);
        Bench.due("six TEAMS, the parting", x.teams(1, 6, 2), 0012345);
        Bench.due("seven TEAMS", x.teams(1, 7, 0), NONE);
        NightBridge y = telling(LEAST_LAND, "hours 4;bearer 0 0;").x;
        Bench.dueFrom("TEAMS of nobody", k -> y.teams(0, k, 0), 1, NONE);
        Bench.dueFrom("TEAMS of one", k -> y.teams(1, k, 0), 1, NONE, 1);
        Bench.dueFrom("what of a TEAM of one", what -> y.teams(1, 1, what), 0, NONE, 1, 1, 0);
    }

    private static void hire() {
        // 1 alone: 50, 2 alone: 20, both: 10 hundredths
        NightBridge x = telling("bearer 5 5;bearer 7 2;", LEAST_LAND).x;
        long[] cost = new long[101];
        long[] who = new long[101];
        long[] least = new long[101];
        for (int c = 0; c <= 100; c++) {
            cost[c] = c < 10 ? NONE : c < 20 ? 12 : c < 50 ? 7 : c < 100 ? 5 : 0;
            who[c] = c < 10 ? NONE : c < 20 ? 3 : c < 50 ? 2 : c < 100 ? 1 : 0;
            least[c] = c < 100 ? NONE : 0;
        }
        Bench.dueFrom("COST of HIRE", c -> x.hire(0, c, false), 0, NONE, cost);
        Bench.dueFrom("who of HIRE", c -> x.hire(0, c, true), 0, NONE, who);
        Bench.dueFrom("COST of HIRE of nobody", c -> x.hire(1, c, false), 0, NONE, least);
        Bench.dueFrom("who of HIRE of nobody", c -> x.hire(1, c, true), 0, NONE, least);
    }

    private static void seen() {
        StringBuilder s = new StringBuilder();
        long[] who = new long[21];
        long[] hour = new long[20];
        long[] dark = new long[20];
        who[0] = 20;
        for (int k = 0; k < 20; k++) {
            who[k + 1] = k % 10;
            hour[k] = k + 4;
            dark[k] = k % 2;
            s.append("saw ").append(k % 10).append(' ').append(k + 4).append(k % 2 == 1 ? " dark;" : " light;");
        }
        NightBridge x = telling(s.toString()).x;
        x.text(Bench.SIGHT, NONE);
        Bench.dueFrom("who has SEEN", k -> x.seen(0, k, 0), NONE, -2, who);
        Bench.dueFrom("the hour of a SEEN one", k -> x.seen(0, k, 1), 0, -2, hour);
        Bench.dueFrom("dark or light", k -> x.seen(0, k, 2), 0, -2, dark);
        Bench.dueFrom("what of all SEEN ones", what -> x.seen(0, NONE, what), 0, -2, 20);
        Bench.dueFrom("what of the first SEEN one", what -> x.seen(0, 0, what), 0, -2, 0, 4, 0);
        Bench.dueFrom("what of the last SEEN one", what -> x.seen(0, 19, what), 0, -2, 9, 23, 1);
        Bench.dueFrom("what of no SEEN one", what -> x.seen(0, 20, what), 0, -2);
        Bench.dueFrom("SEEN ones of an empty SIGHT", k -> x.seen(1, k, 0), NONE, -2, 0);
        Bench.dueFrom("SEEN ones of no SIGHT", k -> x.seen(2, k, 0), NONE, -2);
    }

    private static void stolen() {
        NightBridge x = told().x;
        Bench.dueFrom("stolen by 0", what -> x.stolen(0, 0, 0, what), 0, -2, 7, 0, 0, 0);
        Bench.dueFrom("stolen by 1", what -> x.stolen(0, 0, 1, what), 0, -2, 7, 4, 1, 2);
        Bench.dueFrom("stolen, none fits", what -> x.stolen(0, 1, 0, what), 0, -2, 0, 0, NONE, NONE);
        Bench.dueFrom("stolen, seen by somebody who is not there", what -> x.stolen(1, 0, 1, what), 0, -2);
        for (int hours = 4; hours <= 24; hours++) {
            String last = (hours - 1) + " dark;";
            String land = "hours " + hours + ";person 0 0 0;person 0 0 0;";
            // not away at the last hour: for no hours, or for n of those ahead of it
            int fits = 1 + hours * (hours - 1) / 2;
            dueStolen(land, "saw 1 " + last, fits);
            dueStolen(land, "saw 0 " + last + "saw 1 " + last, fits);
            dueStolen(land, "saw 2 " + last, -2);
            dueStolen(land, "saw 0 " + last + "saw 9 " + last + "saw 1 " + last, -2);
            if (hours < 24) {
                dueStolen(land, "saw 0 " + hours + " dark;", -2);
                dueStolen(land, "saw 1 " + last + "saw 1 23 light;", -2);
            }
        }
        dueStolen(LEAST_LAND, "saw 0 0 light;", -2);
        dueStolen(LEAST_LAND, "", 2 + 3 * 4);
    }

    private static void dueStolen(String land, String sight, int fits) {
        Bench b = telling(land, "night 0 0 23;");
        Bench.due(sight, b.tell(Bench.SIGHT, sight), 0);
        Bench.due("FITS of " + sight + " in " + land, b.x.stolen(0, 0, 0, 0), fits);
    }

    private static void gameOfSets() {
        NightBridge x = telling("worth 1 1;worth 2 2;worth 3 9;worth 4 4;worth 5 10;worth 6 12;worth 7 60;").x;
        // set 0 is no set: it has CORE and POWER
        int[] worth = {1, 2, 9, 4, 10, 12, 60};
        for (int set = 1; set <= 7; set++) {
            int each = set;
            Bench.dueFrom("what of set " + set, what -> x.game(0, each, what), 0, -1000, worth[set - 1]);
        }
        Bench.dueFrom("what of the least set", what -> x.game(0, Integer.MIN_VALUE, what), 0, -1000);
        Bench.dueFrom("what of the greatest set", what -> x.game(0, Integer.MAX_VALUE, what), 0, -1000);
        Bench.dueFrom("what of set 8", what -> x.game(0, 8, what), 0, -1000);
        Bench.dueFrom("what of set -1", what -> x.game(0, -1, what), 0, -1000);
        NightBridge y = telling("worth 1 1;worth 2 1;worth 4 1;worth 7 3;").x;
        Bench.dueFrom("what of the game", what -> y.game(0, 0, what), 0, -1000, 1, 1, 1, 1, 2 + 0 - 1 + 0 - 1 + 6, 6, 6);
    }

    private static void errand() {
        NightBridge x = told().x;
        Bench.dueFrom("errand of one", p -> x.errand(0, 0, p, 0, 1, false), 0, NONE, 5, 3);
        Bench.dueFrom("errand from an hour", h -> x.errand(0, 0, 0, h, 1, true), 0, NONE, 2, 1, 0, 0);
        Bench.dueFrom("errand from an hour of 5", h -> x.errand(1, 0, 0, h, 1, true), 0, NONE, 0, 0, 2, 1, 0);
        // nights on the bridge alone: he may go at once, whatever n is
        NightBridge y = telling(LEAST_LAND + "person 0 0 0;", "hours 24;walk 4;person 1 0 0;", "night 2 0 0;").x;
        Bench.dueFrom("errand of n hours", n -> y.errand(0, 0, 0, 0, n, false), 1, NONE, 3, 4, 5, 6, 7, 8, 9, 10, 11, 12, 13, 14);
        Bench.dueFrom("wait of n hours", n -> y.errand(0, 0, 0, 3, n, true), 1, NONE, 0, 0, 0, 0, 0, 0, 0, 0, 0, 0, 0, 0);
        Bench.dueFrom("errand of 24 hours", h -> y.errand(1, 0, 0, h, 12, false), 0, NONE,
                20, 20, 20, 20, 20, 20, 20, 20, 20, 20, 20, 20, 20, 20, 20, 20, 20, 20, 20, 20, 20, 20, 20, 20);
        Bench.dueFrom("errand of nobody", p -> y.errand(0, 0, p, 0, 1, true), 0, NONE, 0);
    }

    private static void meet() {
        NightBridge x = told().x;
        Bench.dueFrom("one meets 0", a -> x.meet(0, 0, a, 0, 0), 0, NONE, 1, 1);
        Bench.dueFrom("1 meets one", b -> x.meet(0, 0, 1, b, 0), 0, NONE, 1, 0);
        Bench.dueFrom("0 and 1 meet from an hour", h -> x.meet(0, 0, 0, 1, h), 0, NONE, 1, 0, 1, 0);
        Bench.dueFrom("0 meets himself from an hour of 5", h -> x.meet(1, 1, 0, 0, h), 0, NONE, 3, 2, 1, 0, 0);
        Bench.dueFrom("of nobody", a -> x.meet(1, 0, a, 0, 0), 0, NONE, 0);
        Bench.dueFrom("with nobody", b -> x.meet(1, 0, 0, b, 0), 0, NONE, 0);
    }

    private static void drawn() {
        NightBridge x = told().x;
        long[] carryings = new long[60];
        for (int days = 1; days <= 60; days++) {
            carryings[days - 1] = 2 * days;
        }
        Bench.dueFrom("CARRYINGS of days", days -> x.drawn(0, 0, 0, days, 1), 1, -2, carryings);
        NightBridge y = telling("hours 4;person 0 1 0;person 1 2 0;bearer 0 10;", LEAST_LAND, "night 0 0 0;night 1 2 2;").x;
        Bench.dueFrom("VILLAGES of days, always tired", days -> y.drawn(0, 0, 0, days, 0), 1, -2, carryings);
        Bench.dueFrom("days in which he had NEED", days -> y.drawn(0, 0, 0, days, 10), 1, -2, new long[60]);
        Bench.dueOnly("what of two", what -> y.drawn(0, 0, 0, 60, what), -2, new int[][] {{0, 120}, {1, 120}, {10, 0}, {11, 0}});
        Bench.dueOnly("what of nobody", what -> y.drawn(1, 0, 0, 60, what), -2, new int[][] {{0, 0}, {1, 120}});
        Bench.dueOnly("what of no days", what -> y.drawn(0, 0, 0, 0, what), -2);
        Bench.dueOnly("what of 61 days", what -> y.drawn(0, 0, 0, 61, what), -2);
        NightBridge z = telling(greatest(), "night 0 0 9;night 1 13 23;").x;
        // 10 hours of dark in city 0, 11 in city 1; a NEED of 3 to 12, one hour less if it is put down
        for (int p = 0; p < 10; p++) {
            int days = z.drawn(0, 0, 5, 60, 10 + p);
            int dark = p % 2 == 0 ? 10 : 11;
            Bench.due("days of " + p, p + 3 < dark ? days == 60 : p + 3 > dark ? days == 0 : days >= 0, true);
        }
        Bench.due("days of an 11th", z.drawn(0, 0, 5, 60, 20), -2);
    }

    private static void image() {
        Bench b = told();
        Bench.dueFrom("again without images", k -> b.x.again(k) ? 1 : 0, 0, 0);
        b.x.image(1);
        Bench.dueFrom("again with image 1", k -> b.x.again(k) ? 1 : 0, 1, 0, 1);
        Bench.dueFrom("image", k -> b.x.image(k) ? 1 : 0, 0, 0, 1, 1, 1);
        Bench.dueFrom("again", k -> b.x.again(k) ? 1 : 0, 0, 0, 1, 1, 1);
    }
}
