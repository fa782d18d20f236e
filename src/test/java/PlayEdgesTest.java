/** Promises 16 to 24 at their edges: what is alike, what is just enough, parts of nothing and of all. */
final class PlayEdgesTest {
    private static final int NONE = NightBridge.NONE;

    public static void main(String[] args) {
        turnsOfAlike();
        knifeOfAlike();
        evenOfAlike();
        everySmallCut();
        envyOfAlike();
        moveForMoreAlone();
        moveInTurn();
        restsInOrder();
        teamsOfAlike();
        teamsJustBetter();
        hireJustSo();
        hireOfAlike();
        everySmallTheft();
        theftsRound();
        coreJustSo();
        powers();
        Bench.close("PlayEdgesTest");
    }

    private static Bench told(String... texts) {
        Bench b = new Bench();
        for (int sort = 0; sort < texts.length; sort++) {
            Bench.due(texts[sort], b.tell(sort, texts[sort]), 0);
        }
        return b;
    }

    // ---- cuts ----

    /** A land of one in each city, with what they like, hour by hour, as figures. */
    private static String likes(String zero, String one) {
        StringBuilder s = new StringBuilder("hours " + zero.length() + ";person 0 0 0;person 1 0 0;");
        for (int p = 0; p < 2; p++) {
            String figures = p == 0 ? zero : one;
            for (int h = 0; h < figures.length(); h++) {
                if (figures.charAt(h) != '0') {
                    s.append("likes ").append(p).append(' ').append(h).append(' ').append(h).append(' ');
                    s.append(figures.charAt(h)).append(';');
                }
            }
        }
        return s.toString();
    }

    private static void dueCuts(String zero, String one, int how, int byZero, int byOne) {
        Bench b = told(likes(zero, one));
        Bench.due("cut " + how + " of 0 of " + zero + " and " + one, b.x.cut(0, how, 0), byZero);
        Bench.due("cut " + how + " of 1 of " + zero + " and " + one, b.x.cut(0, how, 1), byOne);
    }

    private static void turnsOfAlike() {
        dueCuts("0000", "0000", 0, 0b1010, 0b0101);
        dueCuts("9999", "9999", 0, 0b1010, 0b0101);
        dueCuts("00000", "00000", 0, 0b01010, 0b10101);
        dueCuts("0010", "0010", 0, 0b1001, 0b0110);
        dueCuts("0122", "2210", 0, 0b0011, 0b0011);
        dueCuts("0009", "9000", 0, 0b0101, 0b0011);
    }

    private static void knifeOfAlike() {
        dueCuts("0000", "0000", 1, 0b0001, 0b1110);
        // just as much on either side of the last hour, of the first
        dueCuts("1113", "0001", 1, 0b1000, 0b0001);
        dueCuts("3111", "1000", 1, 0b0001, 0b1110);
        // 1 apart at 1 and at 2: the least k; both parts alike to the other one: the first
        dueCuts("1100", "1001", 1, 0b0001, 0b1110);
        dueCuts("2120", "2002", 1, 0b0001, 0b0001);
        dueCuts("2130", "0000", 1, 0b0011, 0b0001);
    }

    private static void evenOfAlike() {
        dueCuts("0000", "0000", 2, 0, 0);
        dueCuts("9999", "0000", 2, 0, 0);
        dueCuts("0000", "9999", 2, 0, 0);
        dueCuts("1111", "1111", 2, 0b0011, 0b0011);
        dueCuts("1000", "0001", 2, 0b1000, 0b1000);
        dueCuts("1001", "1001", 2, 0b0001, 0b0001);
        dueCuts("11111111111111", "11111111111111", 2, 0b1111111, 0b1111111);
        dueCuts("10000000000000", "00000000000001", 2, 0b10000000000000, 0b10000000000000);
        dueCuts("100000000000000", "000000000000001", 2, NONE, NONE);
    }

    /** All cuts of days of four hours, by likes of 0 to 2; by turns and by a knife, from each city. */
    private static void everySmallCut() {
        for (int code = 0; code < 6561; code++) {
            StringBuilder figures = new StringBuilder();
            for (int i = 0, rest = code; i < 8; i++, rest /= 3) {
                figures.append(rest % 3);
            }
            String zero = figures.substring(0, 4);
            String one = figures.substring(4);
            Bench b = told(likes(zero, one));
            int even = 0;
            for (int cut = 0; cut < 16; cut++) {
                even = lesser(zero, one, cut) > lesser(zero, one, even) ? cut : even;
            }
            Bench.due("EVEN of " + zero + " and " + one, b.x.cut(0, 2, 0), even);
            Bench.due("KNIFE of 0 of " + zero + " and " + one, b.x.cut(0, 1, 0), 15 - chosen(zero, one));
            Bench.due("KNIFE of 1 of " + zero + " and " + one, b.x.cut(0, 1, 1), chosen(one, zero));
        }
    }

    private static int worth(String figures, int hours) {
        int n = 0;
        for (int h = 0; h < figures.length(); h++) {
            n += (hours >> h & 1) * (figures.charAt(h) - '0');
        }
        return n;
    }

    private static int lesser(String zero, String one, int cut) {
        return Math.min(worth(zero, ~cut), worth(one, cut));
    }

    /** What the one who cuts keeps. */
    private static int chosen(String cutter, String taker) {
        int apart = 1000;
        int kept = 0;
        for (int part : new int[] {1, 3, 7}) {
            int difference = Math.abs(worth(cutter, part) - worth(cutter, 15 - part));
            if (difference < apart) {
                apart = difference;
                kept = worth(taker, 15 - part) > worth(taker, part) ? part : 15 - part;
            }
        }
        // of city 1 the bits are the cut; of city 0 all others
        return kept;
    }

    private static void envyOfAlike() {
        Bench b = told(likes("1234", "4321"));
        for (int cut = 0; cut < 16; cut++) {
            int zero = worth("1234", cut) - worth("1234", ~cut);
            int one = worth("4321", ~cut) - worth("4321", cut);
            Bench.due("ENVY of 0 by " + cut, b.x.envy(0, 0, cut), Math.max(0, zero));
            Bench.due("ENVY of 1 by " + cut, b.x.envy(0, 1, cut), Math.max(0, one));
            Bench.due("ENVY of 0 by " + cut + " and bits beyond", b.x.envy(0, 0, cut | -16), Math.max(0, zero));
            Bench.due("ENVY of 1 by " + cut + " and bits beyond", b.x.envy(0, 1, cut | -16), Math.max(0, one));
        }
    }

    // ---- moves ----

    /** One moves for more, not for as much; another one who lives with him takes CROWD away. */
    private static void moveForMoreAlone() {
        Bench b = told("", "night 0 0 0;night 1 1 1;");
        for (int here = 0; here <= 9; here++) {
            for (int there = 0; there <= 9; there++) {
                String land = "person 0 0 0;likes 0 0 0 " + here + ";likes 0 1 1 " + there + ";";
                b.tell(Bench.LAND, 0, land + "crowd 9;");
                Bench.due("GAIN alone here of " + land, b.x.gain(0, 0, 0, 0), here);
                Bench.due("GAIN alone there of " + land, b.x.gain(0, 0, 0, 1), there);
                Bench.due("ROUNDS of " + land, b.x.moves(0, 0, 0), there > here ? 1 : 0);
                Bench.due("lives by " + land, b.x.moves(0, 0, 1), there > here ? 1 : 0);
                Bench.due("RESTS of " + land, b.x.moves(0, 0, 2), there == here ? 2 : 1);
                Bench.due("first REST of " + land, b.x.moves(0, 0, 100), there > here ? 1 : 0);
                for (int crowd = 0; crowd <= 9; crowd += 3) {
                    // the other one, who likes his city for all of it, stays
                    String two = land + "crowd " + crowd + ";person 0 0 0;likes 1 0 0 9;";
                    b.tell(Bench.LAND, 0, two);
                    Bench.due("GAIN with another of " + two, b.x.gain(0, 0, 0, 0), here - crowd);
                    Bench.due("GAIN without another of " + two, b.x.gain(0, 0, 0, 1), there);
                    Bench.due("ROUNDS of " + two, b.x.moves(0, 0, 0), there > here - crowd ? 1 : 0);
                    Bench.due("lives by " + two, b.x.moves(0, 0, 1), there > here - crowd ? 1 : 0);
                }
            }
        }
    }

    /** By numbers, each as all else is then. */
    private static void moveInTurn() {
        String none = "night 2 0 0;";
        dueMoves("crowd 1;person 0 0 0;person 0 0 0;", none, 1, 0b01);
        dueMoves("crowd 1;person 1 0 0;person 1 0 0;", none, 1, 0b10);
        dueMoves("crowd 1;person 0 0 0;person 1 0 0;", none, 0, 0b10);
        dueMoves("crowd 1;person 0 0 0;person 0 0 0;person 0 0 0;", none, 1, 0b001);
        dueMoves("crowd 1;person 0 0 0;person 0 0 0;person 0 0 0;person 0 0 0;", none, 1, 0b0011);
        dueMoves(Bench.times(10, "person 0 0 0;"), none, 0, 0);
        dueMoves("crowd 9;" + Bench.times(10, "person 1 0 0;"), none, 1, 0b1111100000);
        // 0 goes when 1 has come to him: in the second round
        dueMoves("crowd 3;person 0 0 0;person 1 0 0;likes 0 0 0 2;likes 1 0 0 9;", "night 0 0 0;", 2, 0b01);
        // as much in both then: he stays
        dueMoves("crowd 2;person 0 0 0;person 1 0 0;likes 0 0 0 2;likes 1 0 0 9;", "night 0 0 0;", 1, 0b00);
    }

    private static void dueMoves(String land, String treaty, int rounds, int living) {
        Bench b = told(land, treaty);
        Bench.due("ROUNDS of " + land, b.x.moves(0, 0, 0), rounds);
        Bench.due("where all live then of " + land, b.x.moves(0, 0, 1), living);
    }

    private static void restsInOrder() {
        Bench b = told("crowd 1;" + Bench.times(5, "person 1 0 0;"), "");
        // two or three of five in city 1, by their bits
        int k = 0;
        for (int living = 0; living < 32; living++) {
            int inOne = Integer.bitCount(living);
            if (inOne == 2 || inOne == 3) {
                Bench.due("REST " + k, b.x.moves(0, 0, 100 + k), living);
                k++;
            }
        }
        Bench.due("RESTS", b.x.moves(0, 0, 2), 20);
        Bench.due("REST 20", b.x.moves(0, 0, 120), NONE);
        b = told(Bench.times(10, "person 1 0 0;"), "");
        Bench.due("the last of 1024 RESTS", b.x.moves(0, 0, 1123), 1023);
        Bench.due("no more than 1024 RESTS", b.x.moves(0, 0, 1124), NONE);
    }

    // ---- bearers ----

    /** All alike: the least number puts as many as may be into TEAM 0, one each into the others, the last ones. */
    private static void teamsOfAlike() {
        for (int bearers = 1; bearers <= 6; bearers++) {
            for (int tired : new int[] {0, 10}) {
                Bench b = told(Bench.times(bearers, "bearer 3 " + tired + ";"));
                for (int k = 1; k <= bearers; k++) {
                    int parting = 0;
                    for (int c = 0; c < bearers; c++) {
                        parting = parting * 8 + Math.max(0, c - (bearers - k));
                    }
                    String what = " of " + k + " TEAMS of " + bearers + ", TIRED " + tired;
                    Bench.due("N" + what, b.x.teams(0, k, 0), tired == 0 ? 1 : 0);
                    Bench.due("D" + what, b.x.teams(0, k, 1), 1);
                    Bench.due("the parting" + what, b.x.teams(0, k, 2), parting);
                }
                Bench.due("one TEAM too many", b.x.teams(0, bearers + 1, 0), NONE);
                Bench.due("no TEAM", b.x.teams(0, 0, 0), NONE);
            }
        }
        for (int bearers = 2; bearers <= 6; bearers++) {
            // each by himself: one half of a half of a half
            Bench b = told(Bench.times(bearers, "bearer 3 5;"));
            Bench.due("N of halves", b.x.teams(0, bearers, 0), 1);
            Bench.due("D of halves", b.x.teams(0, bearers, 1), 1 << bearers);
            // all in one: it is put down if all are tired
            Bench.due("N of one TEAM of halves", b.x.teams(0, 1, 0), (1 << bearers) - 1);
            Bench.due("D of one TEAM of halves", b.x.teams(0, 1, 1), 1 << bearers);
        }
    }

    private static void dueTeams(String land, int k, int n, int d, int parting) {
        Bench b = told(land);
        Bench.due("N of " + k + land, b.x.teams(0, k, 0), n);
        Bench.due("D of " + k + land, b.x.teams(0, k, 1), d);
        Bench.due("the parting of " + k + land, b.x.teams(0, k, 2), parting);
    }

    private static void teamsJustBetter() {
        for (int tired = 0; tired <= 10; tired++) {
            int common = tired == 0 || tired == 10 ? 10 : tired == 5 ? 5 : tired % 2 == 0 ? 2 : 1;
            dueTeams("bearer 0 " + tired + ";", 1, (10 - tired) / common, 10 / common, 0);
        }
        // one who is never tired in each TEAM; else the one who is not always tired is in the other one
        dueTeams("bearer 0 10;bearer 0 0;bearer 0 10;bearer 0 0;", 2, 1, 1, 0001);
        dueTeams("bearer 0 10;bearer 0 10;bearer 0 0;bearer 0 0;", 2, 1, 1, 0001);
        dueTeams("bearer 0 0;bearer 0 0;bearer 0 10;bearer 0 10;", 2, 1, 1, 0100);
        dueTeams("bearer 0 0;bearer 0 10;bearer 0 10;bearer 0 10;", 2, 0, 1, 0001);
        dueTeams("bearer 0 0;bearer 0 10;bearer 0 9;bearer 0 10;", 2, 1, 10, 0010);
        dueTeams("bearer 0 9;bearer 0 10;bearer 0 0;bearer 0 10;", 2, 1, 10, 0010);
        // of these the ones of the same chance are {0 3} and {1 2}, {0 2} and {1 3}: the latter's number is less
        dueTeams("bearer 0 4;bearer 0 4;bearer 0 6;bearer 0 6;", 2, 361, 625, 0101);
    }

    private static void hireJustSo() {
        for (int one = 0; one <= 10; one++) {
            for (int other = 0; other <= 10; other++) {
                Bench b = told("bearer 1 " + one + ";bearer 1 " + other + ";");
                int both = one * other;
                int less = 10 * Math.min(one, other);
                String what = " of " + one + " and " + other;
                Bench.due("HIRE of both" + what, b.x.hire(0, both, false), both >= 100 ? 0 : both >= less ? 1 : 2);
                Bench.due("HIRE of one" + what, b.x.hire(0, less, false), less >= 100 ? 0 : 1);
                Bench.due("who of one" + what, b.x.hire(0, less, true), less >= 100 ? 0 : one <= other ? 1 : 2);
                if (both > 0) {
                    Bench.due("HIRE of just less" + what, b.x.hire(0, both - 1, false), NONE);
                    Bench.due("who of just less" + what, b.x.hire(0, both - 1, true), NONE);
                }
                if (less > 0 && less > both) {
                    Bench.due("HIRE of just more than one" + what, b.x.hire(0, less - 1, false), 2);
                    Bench.due("who of just more than one" + what, b.x.hire(0, less - 1, true), 3);
                }
            }
        }
        // three: 9 * 9 * 9 of a thousand are more than 72 hundredths, and no more than 73
        Bench b = told(Bench.times(3, "bearer 4 9;"));
        Bench.due("HIRE of 73", b.x.hire(0, 73, false), 12);
        Bench.due("HIRE of 72", b.x.hire(0, 72, false), NONE);
        b = told(Bench.times(6, "bearer 99 1;"));
        Bench.due("HIRE of six, 1", b.x.hire(0, 1, false), 198);
        Bench.due("HIRE of six, 0", b.x.hire(0, 0, false), NONE);
        b = told(Bench.times(5, "bearer 99 10;") + "bearer 99 0;");
        Bench.due("HIRE of the sixth", b.x.hire(0, 0, false), 99);
        Bench.due("the sixth", b.x.hire(0, 0, true), 32);
    }

    /** Of several of the least COST the least bits. */
    private static void hireOfAlike() {
        Bench b = told("bearer 4 5;bearer 2 5;bearer 2 5;bearer 4 1;");
        int[] c = {50, 49, 25, 10, 9, 5, 4, 2, 1};
        int[] who = {0b0010, 0b0110, 0b0110, 0b1000, 0b1010, 0b1010, 0b1110, 0b1111, NONE};
        int[] cost = {2, 4, 4, 4, 6, 6, 8, 12, NONE};
        for (int i = 0; i < c.length; i++) {
            Bench.due("COST of " + c[i], b.x.hire(0, c[i], false), cost[i]);
            Bench.due("who of " + c[i], b.x.hire(0, c[i], true), who[i]);
        }
        // those who cost nothing are not taken if they need not be
        b = told("bearer 0 10;bearer 0 5;bearer 0 5;");
        Bench.due("who of 100, for nothing", b.x.hire(0, 100, true), 0);
        Bench.due("who of 50, for nothing", b.x.hire(0, 50, true), 0b010);
        Bench.due("who of 25, for nothing", b.x.hire(0, 25, true), 0b110);
    }

    // ---- stolen hours ----

    /** All rows of four hours, and all that one of each city may have seen of them. */
    private static void everySmallTheft() {
        for (int code = 0; code < 81; code++) {
            StringBuilder treaty = new StringBuilder();
            int[] row = new int[4];
            for (int h = 0, rest = code; h < 4; h++, rest /= 3) {
                row[h] = rest % 3;
                treaty.append("night ").append(row[h]).append(' ').append(h).append(' ').append(h).append(';');
            }
            Bench b = told("hours 4;person 0 0 0;person 1 0 0;", treaty.toString(), "", "");
            for (int saw = 0; saw < 81; saw++) {
                for (int who = 0; who < 2; who++) {
                    dueThefts(b, row, saw, who);
                }
            }
        }
    }

    private static void dueThefts(Bench b, int[] row, int saw, int who) {
        StringBuilder sight = new StringBuilder();
        for (int h = 0, rest = saw; h < 4; h++, rest /= 3) {
            if (rest % 3 < 2) {
                sight.append("saw ").append(who).append(' ').append(h).append(rest % 3 == 1 ? " dark;" : " light;");
            }
        }
        b.tell(Bench.SIGHT, 0, sight.toString());
        String rounds = "0000 1000 0100 0010 0001 1100 0110 0011 1001 1110 0111 1011 1101 1111";
        int fits = 0;
        int surely = 15;
        int first = NONE;
        for (int i = 0; i < 14; i++) {
            int away = Integer.reverse(Integer.parseInt(rounds.substring(5 * i, 5 * i + 4), 2)) >>> 28;
            boolean fit = true;
            for (int h = 0, rest = saw; h < 4; h++, rest /= 3) {
                fit &= rest % 3 == 2 || (row[h] == who && (away >> h & 1) == 0) == (rest % 3 == 1);
            }
            first = fit && fits == 0 ? i : first;
            fits += fit ? 1 : 0;
            surely &= fit ? away : 15;
        }
        String what = " by " + sight + " of " + java.util.Arrays.toString(row);
        Bench.due("FITS" + what, b.x.stolen(0, 0, 0, 0), fits);
        Bench.due("SURELY" + what, b.x.stolen(0, 0, 0, 1), fits == 0 ? 0 : surely);
        Bench.due("LEAST's n" + what, b.x.stolen(0, 0, 0, 2), first == 13 ? 4 : first > 0 ? (first + 3) / 4 : first);
        Bench.due("LEAST's from" + what, b.x.stolen(0, 0, 0, 3), first == 13 ? 0 : first > 0 ? (first - 1) % 4 : first);
    }

    private static void dueTheft(int hours, String sight, int... due) {
        Bench b = told("hours " + hours + ";person 0 0 0;", "night 0 0 23;", "", sight);
        for (int what = 0; what < 4; what++) {
            Bench.due("stolen, " + what + ", of " + hours + " by " + sight, b.x.stolen(0, 0, 0, what), due[what]);
        }
    }

    private static String sawLight(int hours) {
        StringBuilder s = new StringBuilder();
        for (int h = 0; h < hours; h++) {
            s.append("saw 0 ").append(h).append(" light;");
        }
        return s.toString();
    }

    /** Away over the day's end; away at the last hour; away for all hours, for all but some. */
    private static void theftsRound() {
        for (int hours : new int[] {4, 12, 24}) {
            int last = hours - 1;
            String beside = "saw 0 1 dark;saw 0 " + (last - 1) + " dark;";
            dueTheft(hours, "saw 0 0 light;saw 0 " + last + " light;" + beside, 1, 1 | 1 << last, 2, last);
            // n hours hold the last one by n ways to begin, all of them by one
            dueTheft(hours, "saw 0 " + last + " light;", hours * (hours - 1) / 2 + 1, 1 << last, 1, last);
        }
        dueTheft(4, sawLight(4), 1, 15, 4, 0);
        dueTheft(20, sawLight(20), 1, (1 << 20) - 1, 20, 0);
        dueTheft(21, sawLight(20), 2, (1 << 20) - 1, 20, 0);
        // for 20, 21, 22, 23 hours by one, two, three, four ways to begin, and for all
        dueTheft(24, sawLight(20), 1 + 2 + 3 + 4 + 1, (1 << 20) - 1, 20, 0);
    }

    // ---- games ----

    private static void dueCore(String game, int shares, int... first) {
        Bench b = new Bench();
        Bench.due(game, b.tell(Bench.GAME, game), 0);
        Bench.due("CORE of " + game, b.x.game(0, 0, 0), shares);
        for (int c = 0; c < 3; c++) {
            Bench.due("the first's of " + c + " of " + game, b.x.game(0, 0, 1 + c), first[c]);
        }
    }

    private static void coreJustSo() {
        dueCore("", 1, 0, 0, 0);
        dueCore("worth 7 1;", 3, 0, 0, 1);
        dueCore("worth 7 60;", 61 * 62 / 2, 0, 0, 60);
        for (int city = 0; city < 3; city++) {
            int own = 1 << city;
            int others = 7 - own;
            int zero = city == 0 ? 60 : 0;
            int one = city == 1 ? 60 : 0;
            dueCore("worth 7 60;worth " + own + " 60;", 1, zero, one, 60 - zero - one);
            dueCore("worth 7 59;worth " + own + " 60;", 0, NONE, NONE, NONE);
            // all of it is the two others': the first has the city with nothing
            dueCore("worth 7 60;worth " + others + " 60;", 61, 0, city == 2 ? 60 : 0, city == 2 ? 0 : 60);
            dueCore("worth 7 59;worth " + others + " 60;", 0, NONE, NONE, NONE);
        }
        dueCore("worth 1 10;worth 2 20;worth 4 30;worth 7 60;", 1, 10, 20, 30);
        dueCore("worth 1 10;worth 2 20;worth 4 30;worth 7 59;", 0, NONE, NONE, NONE);
        dueCore("worth 1 10;worth 2 20;worth 4 29;worth 7 60;", 3, 10, 20, 30);
        // each pair has 40 at least: just one way to share 60, none to share 59
        dueCore("worth 3 40;worth 5 40;worth 6 40;worth 7 60;", 1, 20, 20, 20);
        dueCore("worth 3 40;worth 5 40;worth 6 40;worth 7 59;", 0, NONE, NONE, NONE);
        dueCore("worth 3 40;worth 5 40;worth 6 39;worth 7 60;", 3, 20, 20, 20);
        dueCore("worth 3 40;worth 5 39;worth 6 40;worth 7 60;", 3, 19, 21, 20);
        dueCore("worth 3 39;worth 5 40;worth 6 40;worth 7 60;", 3, 19, 20, 21);
    }

    /** What each set adds, by how many of the six orders. */
    private static void powers() {
        int[][] due = {{}, {2, -1, -1}, {-1, 2, -1}, {1, 1, -2}, {-1, -1, 2}, {1, -2, 1}, {-2, 1, 1}, {2, 2, 2}};
        for (int set = 1; set <= 7; set++) {
            for (int worth : new int[] {0, 1, 60}) {
                Bench b = new Bench();
                b.tell(Bench.GAME, "worth " + set + " " + worth + ";");
                for (int city = 0; city < 3; city++) {
                    Bench.due("POWER of " + city + " by " + set, b.x.game(0, 0, 4 + city), due[set][city] * worth);
                }
            }
        }
    }
}
