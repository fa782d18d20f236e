/** Promises 22 to 24: what was seen, stolen hours, games of three cities. */
final class SightTest {
    private static final int NONE = NightBridge.NONE;

    public static void main(String[] args) {
        seen();
        stolen();
        stolenByOracle();
        game();
        gamesByOracle();
        Bench.close("SightTest");
    }

    private static void seen() {
        Bench b = new Bench();
        b.tell(Bench.SIGHT, "saw 0 3 dark;saw 9 23 light;");
        int[] due = {0, 3, 1, 9, 23, 0};
        Bench.due("how many", b.x.seen(0, NONE, 0), 2);
        for (int i = 0; i < 6; i++) {
            Bench.due("seen " + i, b.x.seen(0, i / 3, i % 3), due[i]);
        }
        Bench.due("how many, what 1", b.x.seen(0, NONE, 1), -2);
        Bench.due("seen, what 3", b.x.seen(0, 0, 3), -2);
        Bench.due("seen, what -1", b.x.seen(0, 0, -1), -2);
        Bench.due("seen 2", b.x.seen(0, 2, 0), -2);
        Bench.due("seen -2", b.x.seen(0, -2, 0), -2);
        Bench.due("seen of sight 1", b.x.seen(1, NONE, 0), -2);
    }

    private static void stolen() {
        Bench b = new Bench();
        b.tell(Bench.LAND, Bench.SOME_LAND);
        b.tell(Bench.TREATY, Bench.SOME_TREATY);
        // 0 0 2 1 1 2: away at 1, not at 0, not at 3
        b.tell(Bench.SIGHT, "saw 0 0 dark;saw 0 1 light;saw 1 3 dark;");
        int[] due = {2, 2, 1, 1};
        for (int what = 0; what < 4; what++) {
            Bench.due("stolen, " + what, b.x.stolen(0, 0, 0, what), due[what]);
        }
        Bench.due("stolen, 4", b.x.stolen(0, 0, 0, 4), -2);
        Bench.due("stolen, -1", b.x.stolen(0, 0, 0, -1), -2);
        Bench.due("stolen in land 1", b.x.stolen(1, 0, 0, 0), -2);
        Bench.due("stolen by treaty 1", b.x.stolen(0, 1, 0, 0), -2);
        Bench.due("stolen by sight 1", b.x.stolen(0, 0, 1, 0), -2);
        // nothing seen: all fit, none of 0 hours and all of them told twice
        b.tell(Bench.SIGHT, "");
        int[] all = {2 + 5 * 6, 0, 0, 0};
        for (int what = 0; what < 4; what++) {
            Bench.due("nothing seen, " + what, b.x.stolen(0, 0, 1, what), all[what]);
        }
        // dark where the row has it not: none fits
        b.tell(Bench.SIGHT, 1, "saw 0 3 dark;");
        int[] none = {0, 0, NONE, NONE};
        for (int what = 0; what < 4; what++) {
            Bench.due("none fits, " + what, b.x.stolen(0, 0, 1, what), none[what]);
        }
        // away at 0, 1, 3 and 4: all but hour 5 (from 0), all but hour 2 (from 3), or all hours
        b.tell(Bench.SIGHT, 1, "saw 0 0 light;saw 0 1 light;saw 1 3 light;saw 1 4 light;");
        Bench.due("FITS of all away", b.x.stolen(0, 0, 1, 0), 3);
        Bench.due("SURELY of all away", b.x.stolen(0, 0, 1, 1), 0b011011);
        Bench.due("LEAST's n of all away", b.x.stolen(0, 0, 1, 2), 5);
        Bench.due("LEAST's from of all away", b.x.stolen(0, 0, 1, 3), 0);
        // somebody who is not there, an hour that is not there
        b.tell(Bench.SIGHT, 1, "saw 2 0 light;");
        Bench.due("seen by nobody", b.x.stolen(0, 0, 1, 0), -2);
        b.tell(Bench.SIGHT, 1, "saw 1 5 light;");
        Bench.due("seen at the last hour", b.x.stolen(0, 0, 1, 0) > 0, true);
        b.tell(Bench.SIGHT, 1, "saw 1 6 light;");
        Bench.due("seen at no hour", b.x.stolen(0, 0, 1, 1), -2);
    }

    private static void stolenByOracle() {
        Oracle.Dice dice = new Oracle.Dice(31);
        for (int i = 0; i < 300; i++) {
            Oracle o = Oracle.random(dice, 4, 24);
            if (o.people.isEmpty()) {
                continue;
            }
            int[] row = dice.row(o.hours);
            int n0 = dice.between(0, o.hours);
            boolean[] stolen = away(dice.between(0, o.hours - 1), n0, o.hours);
            StringBuilder s = new StringBuilder();
            int[][] saw = new int[dice.between(0, 20)][];
            for (int k = 0; k < saw.length; k++) {
                int p = dice.between(0, o.people.size() - 1);
                int h = dice.between(0, o.hours - 1);
                saw[k] = new int[] {p, h, row[h] == o.city(p) && !stolen[h] ? 1 : 0};
                s.append("saw ").append(p).append(' ').append(h).append(saw[k][2] == 1 ? " dark;" : " light;");
            }
            Bench b = new Bench();
            b.tell(Bench.LAND, o.text());
            b.tell(Bench.TREATY, Oracle.rowText(row));
            b.tell(Bench.SIGHT, s.toString());
            dueAsOracle(o, row, saw, b, s.toString());
        }
    }

    private static boolean[] away(int from, int n, int hours) {
        boolean[] away = new boolean[hours];
        for (int i = 0; i < n; i++) {
            away[(from + i) % hours] = true;
        }
        return away;
    }

    private static void dueAsOracle(Oracle o, int[] row, int[][] saw, Bench b, String what) {
        int fits = 0;
        boolean[] surely = away(0, o.hours, o.hours);
        int[] least = {NONE, NONE};
        for (int n = 0; n <= o.hours; n++) {
            for (int from = 0; from < (n % o.hours == 0 ? 1 : o.hours); from++) {
                boolean[] away = away(from, n, o.hours);
                boolean fit = true;
                for (int[] one : saw) {
                    fit &= (row[one[1]] == o.city(one[0]) && !away[one[1]]) == (one[2] == 1);
                }
                if (fit) {
                    least = fits == 0 ? new int[] {n, from} : least;
                    fits++;
                    for (int h = 0; h < o.hours; h++) {
                        surely[h] &= away[h];
                    }
                }
            }
        }
        int bits = 0;
        for (int h = 0; h < o.hours; h++) {
            bits += surely[h] ? 1 << h : 0;
        }
        Bench.due("FITS " + what, b.x.stolen(0, 0, 0, 0), fits);
        Bench.due("SURELY " + what, b.x.stolen(0, 0, 0, 1), fits == 0 ? 0 : bits);
        Bench.due("LEAST n " + what, b.x.stolen(0, 0, 0, 2), least[0]);
        Bench.due("LEAST from " + what, b.x.stolen(0, 0, 0, 3), least[1]);
    }

    private static void game() {
        Bench b = new Bench();
        b.tell(Bench.GAME, "worth 1 2;worth 2 3;worth 3 8;worth 5 4;worth 6 5;worth 7 10;worth 7 11;worth 7 10;");
        int[] worth = {0, 2, 3, 8, 0, 4, 5, 10};
        for (int set = 1; set < 8; set++) {
            Bench.due("WORTH of " + set, b.x.game(0, set, 0), worth[set]);
            Bench.due("WORTH of " + set + ", what 1", b.x.game(0, set, 1), -1000);
        }
        // city 2 has 0, 1 or 2 (10 less 8), city 1 at most 6, city 0 at most 5, 3 and 2 at least
        int[] due = {9, 2, 6, 2, 23, 29, 8};
        for (int what = 0; what < 7; what++) {
            Bench.due("the game, " + what, b.x.game(0, 0, what), due[what]);
        }
        Bench.due("the game, 7", b.x.game(0, 0, 7), -1000);
        Bench.due("the game, -1", b.x.game(0, 0, -1), -1000);
        Bench.due("set 8", b.x.game(0, 8, 0), -1000);
        Bench.due("set -1", b.x.game(0, -1, 0), -1000);
        Bench.due("game 1", b.x.game(1, 0, 0), -1000);
        b.tell(Bench.GAME, "");
        int[] nothing = {1, 0, 0, 0, 0, 0, 0};
        for (int what = 0; what < 7; what++) {
            Bench.due("an empty game, " + what, b.x.game(1, 0, what), nothing[what]);
        }
        b.tell(Bench.GAME, 1, "worth 1 60;worth 2 60;worth 4 60;");
        int[] none = {0, NONE, NONE, NONE, 0, 0, 0};
        for (int what = 0; what < 7; what++) {
            Bench.due("a game without a core, " + what, b.x.game(1, 0, what), none[what]);
        }
        b.tell(Bench.GAME, 1, "worth 6 60;");
        Bench.due("POWER below 0", b.x.game(1, 0, 4), -120);
        b.tell(Bench.GAME, 1, "worth 7 60;");
        Bench.due("all shares of 60", b.x.game(1, 0, 0), 61 * 62 / 2);
    }

    private static void gamesByOracle() {
        Oracle.Dice dice = new Oracle.Dice(37);
        int[][] orders = {{0, 1, 2}, {0, 2, 1}, {1, 0, 2}, {1, 2, 0}, {2, 0, 1}, {2, 1, 0}};
        for (int i = 0; i < 200; i++) {
            int[] worth = new int[8];
            StringBuilder s = new StringBuilder();
            for (int set = 1; set < 8; set++) {
                worth[set] = dice.between(0, set == 7 ? 60 : dice.between(0, Integer.bitCount(set) * 15));
                s.append("worth ").append(set).append(' ').append(worth[set]).append(';');
            }
            int shares = 0;
            int[] first = {NONE, NONE, NONE};
            for (int n = 0; n < 61 * 61 * 61; n++) {
                int[] share = {n / 3721, n / 61 % 61, n % 61};
                boolean stays = share[0] + share[1] + share[2] == worth[7];
                for (int set = 1; set < 8 && stays; set++) {
                    int sum = 0;
                    for (int c = 0; c < 3; c++) {
                        sum += (set >> c & 1) * share[c];
                    }
                    stays = sum >= worth[set];
                }
                first = stays && shares == 0 ? share : first;
                shares += stays ? 1 : 0;
            }
            int[] power = new int[3];
            for (int[] order : orders) {
                int set = 0;
                for (int city : order) {
                    power[city] += worth[set | 1 << city] - worth[set];
                    set |= 1 << city;
                }
            }
            Bench b = new Bench();
            b.tell(Bench.GAME, s.toString());
            Bench.due("CORE " + s, b.x.game(0, 0, 0), shares);
            for (int c = 0; c < 3; c++) {
                Bench.due("first of CORE " + s, b.x.game(0, 0, 1 + c), first[c]);
                Bench.due("POWER " + s, b.x.game(0, 0, 4 + c), power[c]);
            }
        }
    }
}
