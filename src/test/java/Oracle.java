import java.util.ArrayList;
import java.util.List;

/** The document's terms, worked out by going through everything there is: slow, and written apart from the class. */
final class Oracle {
    int hours = 12;
    int cross = 1;
    int crowd = 0;
    int walk = 1;
    final List<int[]> people = new ArrayList<>(); // city, need, light
    final int[][] likes = new int[10][24];
    final List<int[]> bearers = new ArrayList<>(); // cost, tired
    final int[] toll = new int[24];

    /** A land told at random, by small numbers. */
    static Oracle random(Dice dice, int leastHours, int mostHours) {
        Oracle o = new Oracle();
        o.hours = dice.between(leastHours, mostHours);
        o.cross = dice.between(0, 3);
        o.crowd = dice.between(0, 9);
        o.walk = dice.between(1, 4);
        int people = dice.between(0, dice.between(0, 10));
        int need = dice.between(0, 1 + o.hours / 2);
        for (int p = 0; p < people; p++) {
            o.people.add(new int[] {dice.between(0, 1), dice.between(0, need), dice.between(0, need)});
            int most = dice.between(0, 9);
            for (int h = 0; h < o.hours; h++) {
                o.likes[p][h] = dice.between(0, most);
            }
        }
        int bearers = dice.between(0, 6);
        for (int b = 0; b < bearers; b++) {
            o.bearers.add(new int[] {dice.between(0, 9), dice.between(0, 10)});
        }
        for (int h = 0; h < o.hours; h++) {
            o.toll[h] = dice.between(0, 3) == 0 ? dice.between(0, 99) : 0;
        }
        o.text();
        return o;
    }

    /** Its text; likes for which the tape has no room become 0. */
    String text() {
        StringBuilder s = new StringBuilder();
        s.append("hours ").append(hours).append(";cross ").append(cross);
        s.append(";crowd ").append(crowd).append(";walk ").append(walk).append(';');
        for (int[] p : people) {
            s.append("person ").append(p[0]).append(' ').append(p[1]).append(' ').append(p[2]).append(';');
        }
        for (int[] b : bearers) {
            s.append("bearer ").append(b[0]).append(' ').append(b[1]).append(';');
        }
        for (int h = 0; h < hours; h++) {
            if (toll[h] > 0) {
                s.append("toll ").append(h).append(' ').append(toll[h]).append(';');
            }
        }
        for (int p = 0; p < people.size(); p++) {
            for (int h = 0; h < hours; h++) {
                int from = h;
                while (h + 1 < hours && likes[p][h + 1] == likes[p][from]) {
                    h++;
                }
                String line = "likes " + p + " " + from + " " + h + " " + likes[p][from] + ";";
                if (likes[p][from] > 0 && s.length() + line.length() <= 600) {
                    s.append(line);
                } else {
                    for (int i = from; i <= h; i++) {
                        likes[p][i] = 0;
                    }
                }
            }
        }
        return s.toString();
    }

    static String rowText(int[] row) {
        StringBuilder s = new StringBuilder();
        for (int h = 0; h < row.length; h++) {
            if (row[h] != 2) {
                s.append("night ").append(row[h]).append(' ').append(h).append(' ').append(h).append(';');
            }
        }
        return s.toString();
    }

    int city(int p) {
        return people.get(p)[0];
    }

    static int dark(int[] row, int city) {
        int n = 0;
        for (int place : row) {
            n += place == city ? 1 : 0;
        }
        return n;
    }

    /** The cities in the order of the hours, with the hour at which each stay begins; bridges left out. */
    List<int[]> arrivals(int[] row) {
        List<int[]> cities = new ArrayList<>();
        for (int h = 0; h < row.length; h++) {
            if (row[h] != 2) {
                cities.add(new int[] {row[h], h});
            }
        }
        List<int[]> found = new ArrayList<>();
        for (int i = 0; i < cities.size(); i++) {
            int[] last = cities.get((i + cities.size() - 1) % cities.size());
            if (last[0] != cities.get(i)[0]) {
                found.add(cities.get(i));
            }
        }
        return found;
    }

    /** By the row written twice as a text, cut where a stay begins. */
    boolean legal(int[] row) {
        StringBuilder s = new StringBuilder();
        for (int place : row) {
            s.append(place);
        }
        String once = s.toString();
        if (once.chars().allMatch(c -> c == '0') || once.chars().allMatch(c -> c == '1')) {
            return true;
        }
        if (!once.contains("0") || !once.contains("1")) {
            return false;
        }
        int start = 0;
        while (once.charAt(start) != '0' || once.charAt((start + once.length() - 1) % once.length()) == '0') {
            start++;
        }
        String round = once.substring(start) + once.substring(0, start);
        String bridge = "2".repeat(cross);
        return round.matches("(0+" + bridge + "1+" + bridge + ")+");
    }

    boolean sleeps(int p, int dark, int all) {
        return dark >= people.get(p)[1] && all - dark >= people.get(p)[2];
    }

    int sleepless(int[] row) {
        int bits = 0;
        for (int p = 0; p < people.size(); p++) {
            bits |= sleeps(p, dark(row, city(p)), row.length) ? 0 : 1 << p;
        }
        return bits;
    }

    int liked(int p, int[] row, int city) {
        int n = 0;
        for (int h = 0; h < row.length; h++) {
            n += row[h] == city ? likes[p][h] : 0;
        }
        return n;
    }

    int value(int[] row) {
        int n = 0;
        for (int p = 0; p < people.size(); p++) {
            n += liked(p, row, city(p));
        }
        return n;
    }

    int price(int[] row) {
        int least = bearers.stream().mapToInt(b -> b[0]).min().orElse(0);
        return arrivals(row).stream().mapToInt(a -> toll[a[1]] + least).sum();
    }

    int worth(int city, int bits) {
        int n = 0;
        for (int p = 0; p < people.size(); p++) {
            for (int h = 0; h < hours; h++) {
                n += city(p) == city && (bits >> h & 1) == 1 ? likes[p][h] : 0;
            }
        }
        return n;
    }

    /** Numbers that look random, the same every time. */
    static final class Dice {
        private long x;

        Dice(long seed) {
            x = seed;
        }

        int between(int low, int high) {
            x = x * 6364136223846793005L + 1442695040888963407L;
            return low + (int) ((x >>> 33) % (high - low + 1));
        }

        int[] row(int hours) {
            int[] row = new int[hours];
            int stay = between(0, 2);
            for (int h = 0; h < hours; h++) {
                stay = between(0, 2) == 0 ? between(0, 2) : stay;
                row[h] = stay;
            }
            return row;
        }
    }
}
