/** Promises 18 and 19: gains, moves and rests. */
final class MovesTest {
    private static final int NONE = NightBridge.NONE;
    private static final String LAND = "hours 4;crowd 3;person 0 0 0;person 0 0 0;person 1 0 0;"
            + "likes 0 0 1 2;likes 1 2 3 4;likes 2 0 0 1;likes 2 3 3 1;";

    public static void main(String[] args) {
        gain();
        moves();
        edges();
        byOracle();
        Bench.close("MovesTest");
    }

    private static Bench told(String land, String treaty) {
        Bench b = new Bench();
        Bench.due(land, b.tell(Bench.LAND, land), 0);
        Bench.due(treaty, b.tell(Bench.TREATY, treaty), 0);
        return b;
    }

    private static void gain() {
        // 0 2 1 1: person 0 likes 2 of 0, 0 of 1; person 1 0 and 8; person 2 1 and 1
        Bench b = told(LAND, "night 0 0 0;night 1 2 3;");
        int[] due = {2 - 3, 0 - 3, 0 - 3, 8 - 3, 1 - 6, 1};
        for (int i = 0; i < 6; i++) {
            Bench.due("GAIN of " + i / 2 + " in " + i % 2, b.x.gain(0, 0, i / 2, i % 2), due[i]);
        }
        Bench.due("GAIN of 3", b.x.gain(0, 0, 3, 0), -1000);
        Bench.due("GAIN of -1", b.x.gain(0, 0, -1, 0), -1000);
        Bench.due("GAIN in 2", b.x.gain(0, 0, 0, 2), -1000);
        Bench.due("GAIN in -1", b.x.gain(0, 0, 0, -1), -1000);
        Bench.due("GAIN in land 1", b.x.gain(1, 0, 0, 0), -1000);
        Bench.due("GAIN by treaty 1", b.x.gain(0, 1, 0, 0), -1000);
    }

    private static void moves() {
        // 0 stays (-1 to -3), 1 moves (-3 to 5); then 2 (1 - 3 in both) stays
        Bench b = told(LAND, "night 0 0 0;night 1 2 3;");
        Bench.due("ROUNDS", b.x.moves(0, 0, 0), 1);
        Bench.due("where all live then", b.x.moves(0, 0, 1), 0b110);
        Bench.due("RESTS", b.x.moves(0, 0, 2), 2);
        Bench.due("REST 0", b.x.moves(0, 0, 100), 0b010);
        Bench.due("REST 1", b.x.moves(0, 0, 101), 0b110);
        Bench.due("REST 2", b.x.moves(0, 0, 102), NONE);
        Bench.due("REST of the greatest number", b.x.moves(0, 0, Integer.MAX_VALUE), NONE);
        for (int what : new int[] {-1, 3, 99, Integer.MIN_VALUE}) {
            Bench.due("moves, what " + what, b.x.moves(0, 0, what), -2);
        }
        Bench.due("moves in land 1", b.x.moves(1, 0, 0), -2);
        Bench.due("moves by treaty 1", b.x.moves(0, 1, 0), -2);
    }

    private static void edges() {
        Bench b = told("", "");
        Bench.due("ROUNDS of nobody", b.x.moves(0, 0, 0), 0);
        Bench.due("nobody lives", b.x.moves(0, 0, 1), 0);
        Bench.due("RESTS of nobody", b.x.moves(0, 0, 2), 1);
        Bench.due("REST of nobody", b.x.moves(0, 0, 100), 0);
        // ten alike, crowded: five move; with as much in both nobody would
        b = told("crowd 9;" + Bench.times(10, "person 0 0 0;"), "");
        Bench.due("ROUNDS of ten", b.x.moves(0, 0, 0), 1);
        Bench.due("where ten live", b.x.moves(0, 0, 1), 0b11111);
        Bench.due("RESTS of ten", b.x.moves(0, 0, 2), 252);
        Bench.due("the last REST of ten", b.x.moves(0, 0, 351), 0b1111100000);
        Bench.due("no more REST of ten", b.x.moves(0, 0, 352), NONE);
        b = told(Bench.times(10, "person 1 0 0;"), "");
        Bench.due("ROUNDS without crowd", b.x.moves(0, 0, 0), 0);
        Bench.due("where they stay", b.x.moves(0, 0, 1), 1023);
        Bench.due("all are RESTS", b.x.moves(0, 0, 2), 1024);
    }

    private static int gain(Oracle o, int[] row, boolean[] inOne, int p, int city) {
        int others = 0;
        for (int q = 0; q < inOne.length; q++) {
            others += q != p && inOne[q] == (city == 1) ? 1 : 0;
        }
        return o.liked(p, row, city) - o.crowd * others;
    }

    private static boolean moves(Oracle o, int[] row, boolean[] inOne, int p) {
        int home = inOne[p] ? 1 : 0;
        return gain(o, row, inOne, p, 1 - home) > gain(o, row, inOne, p, home);
    }

    private static int bits(boolean[] inOne) {
        int bits = 0;
        for (int p = 0; p < inOne.length; p++) {
            bits += inOne[p] ? 1 << p : 0;
        }
        return bits;
    }

    private static void byOracle() {
        Oracle.Dice dice = new Oracle.Dice(19);
        int greatest = 0;
        for (int i = 0; i < 400; i++) {
            Oracle o = Oracle.random(dice, 4, 24);
            int[] row = dice.row(o.hours);
            Bench b = told(o.text(), Oracle.rowText(row));
            boolean[] inOne = new boolean[o.people.size()];
            for (int p = 0; p < inOne.length; p++) {
                inOne[p] = o.city(p) == 1;
            }
            for (int p = 0; p < inOne.length; p++) {
                Bench.due("GAIN in 0 " + o.text(), b.x.gain(0, 0, p, 0), gain(o, row, inOne, p, 0));
                Bench.due("GAIN in 1 " + o.text(), b.x.gain(0, 0, p, 1), gain(o, row, inOne, p, 1));
            }
            int rounds = 0;
            for (boolean moved = true; moved;) {
                moved = false;
                for (int p = 0; p < inOne.length; p++) {
                    if (moves(o, row, inOne, p)) {
                        inOne[p] = !inOne[p];
                        moved = true;
                    }
                }
                rounds += moved ? 1 : 0;
            }
            greatest = Math.max(greatest, rounds);
            Bench.due("ROUNDS " + o.text(), b.x.moves(0, 0, 0), rounds);
            Bench.due("where then " + o.text(), b.x.moves(0, 0, 1), bits(inOne));
            int rests = 0;
            for (int living = 0; living < 1 << inOne.length; living++) {
                boolean rest = true;
                for (int p = 0; p < inOne.length; p++) {
                    inOne[p] = (living >> p & 1) == 1;
                }
                for (int p = 0; p < inOne.length; p++) {
                    rest &= !moves(o, row, inOne, p);
                }
                if (rest) {
                    Bench.due("REST " + rests + o.text(), b.x.moves(0, 0, 100 + rests), living);
                    rests++;
                }
            }
            Bench.due("RESTS " + o.text(), b.x.moves(0, 0, 2), rests);
        }
        Bench.due("some needed more than one round", greatest > 1, true);
    }
}
