/** Promises 20, 21 and 27: teams, hire, years by a seed. */
final class BearersTest {
    private static final int NONE = NightBridge.NONE;

    public static void main(String[] args) {
        teams();
        hire();
        drawn();
        byOracle();
        drawnByOracle();
        Bench.close("BearersTest");
    }

    private static Bench told(String land) {
        Bench b = new Bench();
        Bench.due(land, b.tell(Bench.LAND, land), 0);
        return b;
    }

    private static void dueTeams(Bench b, int k, int n, int d, int parting) {
        Bench.due("N of " + k, b.x.teams(0, k, 0), n);
        Bench.due("D of " + k, b.x.teams(0, k, 1), d);
        Bench.due("the parting of " + k, b.x.teams(0, k, 2), parting);
    }

    private static void teams() {
        Bench b = told("bearer 0 5;bearer 0 2;bearer 0 5;bearer 0 4;");
        dueTeams(b, 1, 49, 50, 0);
        // {5 2} {5 4}: 0.9 * 0.8; {5 5} {2 4}: 0.75 * 0.92; {2} {5 5 4}: 0.8 * 0.9
        dueTeams(b, 2, 18, 25, 0011);
        // {5 5} {2} {4}: 0.75 * 0.8 * 0.6; {5 4} {2} {5} 0.8 * 0.8 * 0.5
        dueTeams(b, 3, 9, 25, 0102);
        dueTeams(b, 4, 3, 25, 0123);
        Bench.due("five teams", b.x.teams(0, 5, 0), NONE);
        Bench.due("no teams", b.x.teams(0, 0, 0), NONE);
        Bench.due("teams -1", b.x.teams(0, -1, 2), NONE);
        Bench.due("teams, what 3", b.x.teams(0, 1, 3), NONE);
        Bench.due("teams, what -1", b.x.teams(0, 1, -1), NONE);
        Bench.due("teams of land 1", b.x.teams(1, 1, 0), NONE);
        b = told("bearer 0 10;bearer 0 10;bearer 0 10;");
        dueTeams(b, 1, 0, 1, 0);
        dueTeams(b, 2, 0, 1, 0001);
        dueTeams(b, 3, 0, 1, 0012);
        b = told(Bench.times(6, "bearer 0 0;"));
        dueTeams(b, 2, 1, 1, 0000001);
        dueTeams(b, 6, 1, 1, 0012345);
        b = told("");
        Bench.due("teams of nobody", b.x.teams(0, 1, 0), NONE);
    }

    private static void dueHire(Bench b, int c, int cost, int who) {
        Bench.due("HIRE of " + c, b.x.hire(0, c, false), cost);
        Bench.due("who of " + c, b.x.hire(0, c, true), who);
    }

    private static void hire() {
        Bench b = told("bearer 5 5;bearer 3 6;bearer 2 6;bearer 3 5;");
        dueHire(b, 100, 0, 0);
        dueHire(b, 99, 2, 4);
        dueHire(b, 60, 2, 4);
        dueHire(b, 59, 3, 8);
        dueHire(b, 50, 3, 8);
        // 0.6 * 0.6 for 5, 0.6 * 0.5 for 5
        dueHire(b, 49, 5, 6);
        dueHire(b, 36, 5, 6);
        dueHire(b, 35, 5, 12);
        dueHire(b, 9, 13, 15);
        dueHire(b, 8, NONE, NONE);
        Bench.due("HIRE of -1", b.x.hire(0, -1, false), NONE);
        Bench.due("HIRE of 101", b.x.hire(0, 101, false), NONE);
        Bench.due("HIRE in land 1", b.x.hire(1, 50, true), NONE);
        b = told("bearer 9 0;bearer 9 0;bearer 0 10;");
        dueHire(b, 0, 9, 1);
        b = told("");
        dueHire(b, 100, 0, 0);
        dueHire(b, 99, NONE, NONE);
    }

    private static void drawn() {
        Bench b = told("hours 4;person 0 1 0;person 0 2 0;person 1 1 4;person 1 0 0;bearer 0 10;");
        b.tell(Bench.TREATY, "night 0 0 0;night 1 2 2;");
        // put down each time: nobody ever has an hour of dark
        Bench.due("VILLAGES", b.x.drawn(0, 0, 5, 7, 0), 14);
        Bench.due("CARRYINGS", b.x.drawn(0, 0, 5, 7, 1), 14);
        int[] never = {0, 0, 0, 7};
        int[] always = {7, 0, 7, 7};
        for (int p = 0; p < 4; p++) {
            Bench.due("days of " + p, b.x.drawn(0, 0, 5, 7, 10 + p), never[p]);
        }
        for (int what : new int[] {-1, 2, 9, 14, Integer.MAX_VALUE, Integer.MIN_VALUE}) {
            Bench.due("drawn, what " + what, b.x.drawn(0, 0, 5, 7, what), -2);
        }
        Bench.due("no days", b.x.drawn(0, 0, 5, 0, 0), -2);
        Bench.due("days -1", b.x.drawn(0, 0, 5, -1, 0), -2);
        Bench.due("60 days", b.x.drawn(0, 0, 5, 60, 0), 120);
        Bench.due("61 days", b.x.drawn(0, 0, 5, 61, 0), -2);
        Bench.due("drawn in land 1", b.x.drawn(1, 0, 5, 7, 0), -2);
        Bench.due("drawn by treaty 1", b.x.drawn(0, 1, 5, 7, 0), -2);
        for (String bearers : new String[] {"", "bearer 0 0;"}) {
            b.tell(Bench.LAND, 0, "hours 4;person 0 1 0;person 0 2 0;person 1 1 4;person 1 0 0;" + bearers);
            Bench.due("VILLAGES" + bearers, b.x.drawn(0, 0, 5, 7, 0), 0);
            Bench.due("CARRYINGS" + bearers, b.x.drawn(0, 0, 5, 7, 1), 14);
            for (int p = 0; p < 4; p++) {
                Bench.due("days of " + p + bearers, b.x.drawn(0, 0, 5, 7, 10 + p), always[p]);
            }
        }
        // bearers in turn, on from day to day: with two carryings a day and three bearers every third is tired
        b.tell(Bench.LAND, 0, "hours 4;person 0 1 0;person 1 1 0;bearer 0 10;bearer 0 0;bearer 0 0;");
        Bench.due("VILLAGES of every third", b.x.drawn(0, 0, 9, 3, 0), 2);
        Bench.due("days of city 0", b.x.drawn(0, 0, 9, 3, 10), 2);
        Bench.due("days of city 1", b.x.drawn(0, 0, 9, 3, 11), 2);
        // seed 1 draws 16838 and 38526: 8 and 6
        int[] below = {0, 0, 0, 0, 0, 0, 0, 1, 1, 2, 2};
        for (int tired = 0; tired <= 10; tired++) {
            b.tell(Bench.LAND, 0, "hours 4;bearer 0 " + tired + ";");
            Bench.due("8 and 6 by TIRED " + tired, b.x.drawn(0, 0, 1, 1, 0), below[tired]);
        }
    }

    /** All partings as rows of teams, as doubles would not be exact. */
    private static void byOracle() {
        Oracle.Dice dice = new Oracle.Dice(23);
        for (int i = 0; i < 60; i++) {
            Oracle o = Oracle.random(dice, 4, 6);
            Bench b = told(o.text());
            int n = o.bearers.size();
            for (int k = 1; k <= n; k++) {
                dueAllPartings(o, b, n, k);
            }
            for (int c = 0; c <= 100; c += 5) {
                int least = NONE;
                int who = NONE;
                for (int team = 0; team < 1 << n; team++) {
                    long chance = 100;
                    int cost = 0;
                    for (int m = 0; m < n; m++) {
                        chance *= (team >> m & 1) == 1 ? o.bearers.get(m)[1] : 10;
                        cost += (team >> m & 1) == 1 ? o.bearers.get(m)[0] : 0;
                    }
                    if (chance <= c * Math.pow(10, n) && (who < 0 || cost < least)) {
                        who = team;
                        least = cost;
                    }
                }
                Bench.due("HIRE " + c + " " + o.text(), b.x.hire(0, c, false), least);
                Bench.due("HIRE who " + c + " " + o.text(), b.x.hire(0, c, true), who);
            }
        }
    }

    private static void dueAllPartings(Oracle o, Bench b, int n, int k) {
        long most = -1;
        int parting = -1;
        long whole = (long) Math.pow(10, n);
        for (int code = 0; code < 1 << 3 * n; code++) {
            long[] tired = new long[8];
            long[] all = new long[8];
            for (int m = 0; m < n; m++) {
                int team = code >> 3 * (n - 1 - m) & 7;
                all[team] = all[team] == 0 ? 10 : all[team] * 10;
                tired[team] = (all[team] == 10 ? 1 : tired[team]) * o.bearers.get(m)[1];
            }
            boolean parts = true;
            long chance = 1;
            for (int team = 0; team < 8; team++) {
                parts &= all[team] > 0 == team < k;
                chance *= all[team] > 0 ? all[team] - tired[team] : 1;
            }
            if (parts && chance > most) {
                most = chance;
                parting = code;
            }
        }
        long by = java.math.BigInteger.valueOf(most).gcd(java.math.BigInteger.valueOf(whole)).longValue();
        Bench.due("N " + k + o.text(), b.x.teams(0, k, 0), most / by);
        Bench.due("D " + k + o.text(), b.x.teams(0, k, 1), whole / by);
        Bench.due("parting " + k + o.text(), b.x.teams(0, k, 2), parting);
    }

    private static void drawnByOracle() {
        Oracle.Dice dice = new Oracle.Dice(29);
        for (int i = 0; i < 200; i++) {
            Oracle o = Oracle.random(dice, 4, 24);
            int[] row = dice.row(o.hours);
            Bench b = told(o.text());
            b.tell(Bench.TREATY, Oracle.rowText(row));
            int seed = dice.between(0, 1 << 30) * 3;
            int days = dice.between(1, 60);
            long x = seed & 0xffffffffL;
            int villages = 0;
            int turn = 0;
            int[] good = new int[o.people.size()];
            for (int d = 0; d < days; d++) {
                int[] went = row.clone();
                for (int[] arrival : o.arrivals(row)) {
                    if (!o.bearers.isEmpty()) {
                        x = (x * 1103515245L + 12345L) & 0xffffffffL;
                        if ((x >> 16) % 10 < o.bearers.get(turn % o.bearers.size())[1]) {
                            villages++;
                            went[arrival[1]] = 2;
                        }
                        turn++;
                    }
                }
                for (int p = 0; p < good.length; p++) {
                    good[p] += Oracle.dark(went, o.city(p)) >= o.people.get(p)[1] ? 1 : 0;
                }
            }
            Bench.due("VILLAGES " + o.text(), b.x.drawn(0, 0, seed, days, 0), villages);
            Bench.due("CARRYINGS " + o.text(), b.x.drawn(0, 0, seed, days, 1), days * o.arrivals(row).size());
            for (int p = 0; p < good.length; p++) {
                Bench.due("days " + o.text(), b.x.drawn(0, 0, seed, days, 10 + p), good[p]);
            }
        }
    }
}
