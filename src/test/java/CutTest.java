/** Promises 15 to 17: what hours are worth, cuts, envy. */
final class CutTest {
    private static final int NONE = NightBridge.NONE;

    public static void main(String[] args) {
        worth();
        cut();
        envy();
        byOracle();
        Bench.close("CutTest");
    }

    private static Bench told(String land) {
        Bench b = new Bench();
        Bench.due(land, b.tell(Bench.LAND, land), 0);
        return b;
    }

    private static void worth() {
        Bench b = told("hours 5;person 0 0 0;person 0 0 0;person 1 0 0;likes 0 0 4 1;likes 1 2 2 8;likes 2 0 1 5;");
        Bench.due("all hours to 0", b.x.worth(0, 0, 31), 13);
        Bench.due("all hours to 1", b.x.worth(0, 1, 31), 10);
        Bench.due("hours 1, 2 to 0", b.x.worth(0, 0, 6), 10);
        Bench.due("hours 1, 2 to 1", b.x.worth(0, 1, 6), 5);
        Bench.due("no hours", b.x.worth(0, 0, 0), 0);
        Bench.due("hours beyond", b.x.worth(0, 0, ~31), 0);
        Bench.due("all bits", b.x.worth(0, 1, -1), 10);
        Bench.due("worth to city 2", b.x.worth(0, 2, 1), NONE);
        Bench.due("worth to city -1", b.x.worth(0, -1, 1), NONE);
        Bench.due("worth in land 1", b.x.worth(1, 0, 1), NONE);
        Bench.due("worth in land -1", b.x.worth(-1, 0, 1), NONE);
    }

    private static void cut() {
        // city 0 likes 5 4 3 0, city 1 likes 6 6 0 1
        Bench b = told("hours 4;person 0 0 0;person 1 0 0;likes 0 0 0 5;likes 0 1 1 4;likes 0 2 2 3;likes 1 0 1 6;likes 1 3 3 1;");
        // 0 takes 0, 1 takes 1, 0 takes 2, 1 takes 3; and 1 takes 0, 0 takes 1, 1 takes 3, 0 takes 2
        Bench.due("by TURNS, 0 first", b.x.cut(0, 0, 0), 0b1010);
        Bench.due("by TURNS, 1 first", b.x.cut(0, 0, 1), 0b1001);
        // 0 cuts ahead of 1 (5 to 7), 1 takes the others (7 to 6); 1 cuts ahead of 1 (6 to 7), 0 takes the others
        Bench.due("by a KNIFE of 0", b.x.cut(0, 1, 0), 0b1110);
        Bench.due("by a KNIFE of 1", b.x.cut(0, 1, 1), 0b0001);
        // 8 (0 and 2) to 7 (1 and 3); 7 to 7 is the lesser too (1 and 2 to 0 and 3): the least bits
        Bench.due("EVEN", b.x.cut(0, 2, 0), 0b1001);
        Bench.due("EVEN does not ask the city", b.x.cut(0, 2, 77), 0b1001);
        Bench.due("cut of city 2", b.x.cut(0, 0, 2), NONE);
        Bench.due("knife of city -1", b.x.cut(0, 1, -1), NONE);
        Bench.due("cut, how 3", b.x.cut(0, 3, 0), NONE);
        Bench.due("cut, how -1", b.x.cut(0, -1, 0), NONE);
        Bench.due("cut of land 1", b.x.cut(1, 0, 0), NONE);
        // of several the least hour, the least k, the first part, the least bits
        b = told("hours 5;");
        Bench.due("TURNS of nothing", b.x.cut(0, 0, 0), 0b01010);
        Bench.due("TURNS of nothing, 1 first", b.x.cut(0, 0, 1), 0b10101);
        Bench.due("KNIFE of nothing", b.x.cut(0, 1, 0), 0b00001);
        Bench.due("KNIFE of nothing, 1 cuts", b.x.cut(0, 1, 1), 0b11110);
        Bench.due("EVEN of nothing", b.x.cut(0, 2, 0), 0);
        b = told("hours 14;person 0 0 0;person 1 0 0;likes 0 0 13 1;likes 1 0 13 1;");
        Bench.due("EVEN of 14 hours", b.x.cut(0, 2, 0), 0b1111111);
        b = told("hours 15;");
        Bench.due("EVEN of 15 hours", b.x.cut(0, 2, 0), NONE);
        Bench.due("TURNS of 15 hours", b.x.cut(0, 0, 1), 0b101010101010101);
        b = told("hours 24;person 1 0 0;likes 0 23 23 1;");
        Bench.due("KNIFE of 24 hours", b.x.cut(0, 1, 0), 0xfffffe);
        Bench.due("KNIFE of 1, 24 hours", b.x.cut(0, 1, 1), 0xfffffe);
    }

    private static void envy() {
        Bench b = told("hours 4;person 0 0 0;person 1 0 0;likes 0 0 0 5;likes 0 1 1 4;likes 0 2 2 3;likes 1 0 1 6;likes 1 3 3 1;");
        Bench.due("ENVY of 0, all its own", b.x.envy(0, 0, 0), 0);
        Bench.due("ENVY of 1, nothing its own", b.x.envy(0, 1, 0), 13);
        Bench.due("ENVY of 0 by 0011", b.x.envy(0, 0, 3), 6);
        Bench.due("ENVY of 1 by 0011", b.x.envy(0, 1, 3), 0);
        Bench.due("ENVY of 1 by 1001", b.x.envy(0, 1, 9), 0);
        Bench.due("ENVY of 1 by 0001", b.x.envy(0, 1, 1), 1);
        Bench.due("hours beyond do not count", b.x.envy(0, 1, ~15), 13);
        Bench.due("ENVY of 0 by all bits", b.x.envy(0, 0, -1), 12);
        Bench.due("ENVY of city 2", b.x.envy(0, 2, 0), NONE);
        Bench.due("ENVY of city -1", b.x.envy(0, -1, 0), NONE);
        Bench.due("ENVY in land 1", b.x.envy(1, 0, 0), NONE);
    }

    private static void byOracle() {
        Oracle.Dice dice = new Oracle.Dice(11);
        for (int i = 0; i < 200; i++) {
            Oracle o = Oracle.random(dice, 4, 14);
            Bench b = told(o.text());
            int all = (1 << o.hours) - 1;
            Bench.due("EVEN of " + o.text(), b.x.cut(0, 2, 0), even(o, all));
            for (int city = 0; city < 2; city++) {
                Bench.due("TURNS of " + o.text(), b.x.cut(0, 0, city), turns(o, city));
                Bench.due("KNIFE of " + o.text(), b.x.cut(0, 1, city), knife(o, all, city));
                int bits = dice.between(0, all);
                int own = city == 1 ? bits : all - bits;
                Bench.due("WORTH of " + o.text(), b.x.worth(0, city, bits), o.worth(city, bits));
                int envy = o.worth(city, all - own) - o.worth(city, own);
                Bench.due("ENVY of " + o.text(), b.x.envy(0, city, bits), Math.max(0, envy));
            }
        }
    }

    private static int even(Oracle o, int all) {
        int[][] each = new int[2][o.hours];
        for (int h = 0; h < o.hours; h++) {
            each[0][h] = o.worth(0, 1 << h);
            each[1][h] = o.worth(1, 1 << h);
        }
        int found = 0;
        int most = -1;
        for (int cut = 0; cut <= all; cut++) {
            int[] own = new int[2];
            for (int h = 0; h < o.hours; h++) {
                own[cut >> h & 1] += each[cut >> h & 1][h];
            }
            if (Math.min(own[0], own[1]) > most) {
                most = Math.min(own[0], own[1]);
                found = cut;
            }
        }
        return found;
    }

    private static int turns(Oracle o, int first) {
        boolean[] gone = new boolean[o.hours];
        int cut = 0;
        for (int i = 0; i < o.hours; i++) {
            int city = (first + i) % 2;
            int taken = -1;
            for (int h = 0; h < o.hours; h++) {
                if (!gone[h] && (taken < 0 || o.worth(city, 1 << h) > o.worth(city, 1 << taken))) {
                    taken = h;
                }
            }
            gone[taken] = true;
            cut += city << taken;
        }
        return cut;
    }

    private static int knife(Oracle o, int all, int cutter) {
        int k = 1;
        for (int i = 2; i < o.hours; i++) {
            if (apart(o, all, cutter, i) < apart(o, all, cutter, k)) {
                k = i;
            }
        }
        int first = (1 << k) - 1;
        boolean takesFirst = o.worth(1 - cutter, first) >= o.worth(1 - cutter, all - first);
        boolean oneHasFirst = takesFirst == (cutter == 0);
        return oneHasFirst ? first : all - first;
    }

    private static int apart(Oracle o, int all, int city, int k) {
        int first = (1 << k) - 1;
        return Math.abs(o.worth(city, first) - o.worth(city, all - first));
    }
}
