import java.util.Arrays;

/** Two cities that share one night; ../shared/DOC.md tells what each call answers. */
public final class NightBridge {
    public static final int NONE = -1;

    private static final int ABSENT = -2;
    private static final int UNTOLD = -1000;

    private static final int LANDS = 0;
    private static final int TREATIES = 1;
    private static final int BOOKS = 2;
    private static final int SIGHTS = 3;
    private static final int GAMES = 4;
    private static final int SORTS = 5;
    private static final int EACH = 2;

    private static final int IMAGES = 3;
    private static final int TAPE = 600;
    private static final int FED = 20;
    private static final int DAY = 24;
    private static final int BRIDGE = 2;
    private static final int PEOPLE = 10;
    private static final int BEARERS = 6;
    private static final int SPELLS = 30;
    private static final int SEEN = 20;
    private static final int TOLD_HOURS = 96;
    private static final int SETS = 8;
    private static final int EVEN_HOURS = 14;
    private static final int ROUNDS = 60;
    private static final int DRAWN_DAYS = 60;
    private static final int LONGEST_ERRAND = 12;

    private final Told now = new Told();
    private final Told[] images = new Told[IMAGES];
    private final Reader reader = new Reader();
    private final Planner planner = new Planner();
    private final int[] liked = new int[2 * PEOPLE];
    private final int[] hourWorth = new int[2 * DAY];
    private final int[] teamTired = new int[BEARERS];
    private final int[] teamWhole = new int[BEARERS];

    public NightBridge() {
    }

    // ---- the tape and its texts ----

    public int feed(int a, int b, int c, int d, int e) {
        if (now.length > TAPE - FED) {
            return NONE;
        }
        now.append(a);
        now.append(b);
        now.append(c);
        now.append(d);
        now.append(e);
        return now.length;
    }

    public int end(int n) {
        if (n < 0 || n > now.length) {
            return NONE;
        }
        now.length = n;
        return n;
    }

    public int text(int sort, int at) {
        int length = now.length;
        int slot = slotFor(sort, at);
        now.length = 0;
        now.fault = 0;
        now.faultPlace = NONE;
        if (slot == NONE) {
            return ABSENT;
        }
        reader.read(sort, now.tape, length);
        if (reader.fault != 0) {
            now.fault = reader.fault;
            now.faultPlace = reader.faultPlace;
            return NONE;
        }
        keep(sort, slot);
        return slot;
    }

    /** Where a text of that sort goes: the slot named, or the first free one; NONE if there is none. */
    private int slotFor(int sort, int at) {
        if (sort < 0 || sort >= SORTS) {
            return NONE;
        }
        int told = now.counts[sort];
        if (at == NONE) {
            return told < EACH ? told : NONE;
        }
        return at >= 0 && at < told ? at : NONE;
    }

    private void keep(int sort, int slot) {
        switch (sort) {
            case LANDS:
                now.lands[slot].copyFrom(reader.land);
                break;
            case TREATIES:
                System.arraycopy(reader.treaty, 0, now.treaties[slot], 0, DAY);
                break;
            case BOOKS:
                now.books[slot].copyFrom(reader.book);
                break;
            case SIGHTS:
                now.sights[slot].copyFrom(reader.sight);
                break;
            default:
                System.arraycopy(reader.game, 0, now.games[slot], 0, SETS);
                break;
        }
        if (slot == now.counts[sort]) {
            now.counts[sort]++;
        }
    }

    public int fault(int what) {
        switch (what) {
            case 0:
                return now.fault;
            case 1:
                return now.faultPlace;
            default:
                return NONE;
        }
    }

    public int count(int sort) {
        return sort < 0 || sort >= SORTS ? ABSENT : now.counts[sort];
    }

    public boolean image(int k) {
        if (k < 0 || k >= IMAGES) {
            return false;
        }
        if (images[k] == null) {
            images[k] = new Told();
        }
        images[k].copyFrom(now);
        return true;
    }

    public boolean again(int k) {
        if (k < 0 || k >= IMAGES || images[k] == null) {
            return false;
        }
        now.copyFrom(images[k]);
        return true;
    }

    private boolean isTold(int sort, int number) {
        return number >= 0 && number < now.counts[sort];
    }

    private boolean hasRow(int land, int treaty) {
        return isTold(LANDS, land) && isTold(TREATIES, treaty);
    }

    private static boolean isCity(int city) {
        return city == 0 || city == 1;
    }

    private static int oneIf(boolean holds) {
        return holds ? 1 : 0;
    }

    // ---- what was told ----

    public int land(int land, int what) {
        if (!isTold(LANDS, land)) {
            return NONE;
        }
        Land it = now.lands[land];
        if (what >= 10 && what < 10 + it.hours) {
            return it.toll[what - 10];
        }
        if (what >= 50 && what < 50 + it.bearers) {
            return it.cost[what - 50];
        }
        if (what >= 60 && what < 60 + it.bearers) {
            return it.tired[what - 60];
        }
        switch (what) {
            case 0:
                return it.hours;
            case 1:
                return it.cross;
            case 2:
                return it.crowd;
            case 3:
                return it.walk;
            case 4:
                return it.people;
            case 5:
                return it.bearers;
            default:
                return NONE;
        }
    }

    public int person(int land, int person, int what) {
        if (!isTold(LANDS, land) || !now.lands[land].hasPerson(person)) {
            return NONE;
        }
        Land it = now.lands[land];
        if (what >= 10 && what < 10 + it.hours) {
            return it.likes[person * DAY + what - 10];
        }
        switch (what) {
            case 0:
                return it.cityOf[person];
            case 1:
                return it.need[person];
            case 2:
                return it.light[person];
            default:
                return NONE;
        }
    }

    public int night(int treaty, int hour) {
        if (!isTold(TREATIES, treaty) || hour < 0 || hour >= DAY) {
            return NONE;
        }
        return now.treaties[treaty][hour];
    }

    public int spell(int book, int k, int what) {
        if (!isTold(BOOKS, book) || what < 0 || what > 1) {
            return ABSENT;
        }
        Book it = now.books[book];
        if (k == NONE) {
            return what == 0 ? it.spells : it.hours;
        }
        if (k < 0 || k >= it.spells) {
            return ABSENT;
        }
        return what == 0 ? it.where[k] : it.lasts[k];
    }

    public int seen(int sight, int k, int what) {
        if (!isTold(SIGHTS, sight)) {
            return ABSENT;
        }
        Sight it = now.sights[sight];
        if (k == NONE && what == 0) {
            return it.seen;
        }
        if (k < 0 || k >= it.seen) {
            return ABSENT;
        }
        switch (what) {
            case 0:
                return it.who[k];
            case 1:
                return it.hour[k];
            case 2:
                return it.dark[k];
            default:
                return ABSENT;
        }
    }

    // ---- rows, books, ways ----

    public int row(int land, int treaty, int what) {
        if (!hasRow(land, treaty)) {
            return NONE;
        }
        Land it = now.lands[land];
        int[] where = now.treaties[treaty];
        switch (what) {
            case 0:
                return oneIf(it.isLegal(where));
            case 1:
                return it.carryings(where);
            case 2:
                return it.dark(where, 0);
            case 3:
                return it.dark(where, 1);
            case 4:
                return oneIf(it.sleepless(it.dark(where, 0), it.dark(where, 1)) == 0);
            case 5:
                return it.valueOf(where);
            case 6:
                return it.priceOf(where);
            case 7:
                return it.sleepless(it.dark(where, 0), it.dark(where, 1));
            default:
                return NONE;
        }
    }

    public int days(int land, int book, int what) {
        if (!isTold(LANDS, land) || !isTold(BOOKS, book)) {
            return ABSENT;
        }
        Land it = now.lands[land];
        Book told = now.books[book];
        int whole = it.hours > 0 ? told.hours / it.hours : 0;
        if (what >= 100 && what - 100 < whole) {
            return sleptOn(it, told, what - 100);
        }
        switch (what) {
            case 0:
                return whole;
            case 1:
                return told.villages(it.cross);
            case 2:
                return told.hoursAt(0, 0, told.hours);
            case 3:
                return told.hoursAt(1, 0, told.hours);
            default:
                return ABSENT;
        }
    }

    private static int sleptOn(Land land, Book book, int day) {
        int from = day * land.hours;
        int dark0 = book.hoursAt(0, from, from + land.hours);
        int dark1 = book.hoursAt(1, from, from + land.hours);
        return land.everybody() & ~land.sleepless(dark0, dark1);
    }

    public int breach(int land, int book, int treaty, int what) {
        if (!hasRow(land, treaty) || !isTold(BOOKS, book)) {
            return UNTOLD;
        }
        Land it = now.lands[land];
        int[] where = now.treaties[treaty];
        switch (what) {
            case 0:
                return firstBreach(it, now.books[book], where);
            case 1:
                return owed(it, now.books[book], where, 0);
            case 2:
                return owed(it, now.books[book], where, 1);
            default:
                return UNTOLD;
        }
    }

    private static int firstBreach(Land land, Book book, int[] where) {
        for (int i = 0; i < book.trackHours(); i++) {
            if (book.track[i] != land.at(where, i)) {
                return i;
            }
        }
        return NONE;
    }

    private static int owed(Land land, Book book, int[] where, int city) {
        int more = 0;
        for (int i = 0; i < book.trackHours(); i++) {
            more += oneIf(land.at(where, i) == city) - oneIf(book.track[i] == city);
        }
        return more;
    }

    public long ways(int land) {
        if (!isTold(LANDS, land)) {
            return NONE;
        }
        Land it = now.lands[land];
        long ways = 0;
        for (int pairs = 0; pairs <= it.hours / 2; pairs++) {
            ways += waysWith(it, pairs);
        }
        return ways;
    }

    /** How many legal rows with so many pairs of carryings (there and back) give all their sleep. */
    private static long waysWith(Land land, int pairs) {
        long ways = 0;
        int dark = land.hours - 2 * pairs * land.cross;
        for (int dark0 = 0; dark0 <= dark; dark0++) {
            int dark1 = dark - dark0;
            if (land.sleepless(dark0, dark1) == 0) {
                ways += rowsWith(land.hours, pairs, dark0, dark1);
            }
        }
        return ways;
    }

    /**
     * Legal rows of so many pairs of carryings and hours in both cities. A row is one of the stays in city 0
     * put first (that counts each row once for every pair), its place, and the lengths of all the stays.
     */
    private static long rowsWith(int hours, int pairs, int dark0, int dark1) {
        if (pairs <= 0) {
            return oneIf(dark0 == 0 || dark1 == 0);
        }
        if (dark0 < pairs || dark1 < pairs) {
            return 0;
        }
        return hours * choose(dark0 - 1, pairs - 1) * choose(dark1 - 1, pairs - 1) / pairs;
    }

    private static long choose(int n, int k) {
        long found = 1;
        for (int i = 1; i <= k; i++) {
            found = found * (n - k + i) / i;
        }
        return found;
    }

    public int best(int land, int what) {
        if (!isTold(LANDS, land)) {
            return NONE;
        }
        Land it = now.lands[land];
        if (what == 0) {
            return fewest(it);
        }
        if (what == 3) {
            return Math.max(0, it.greatestNeed(0) + it.greatestNeed(1) - it.hours);
        }
        boolean ofAnHour = what >= 10 && what < 10 + it.hours;
        if (what != 1 && what != 2 && !ofAnHour) {
            return NONE;
        }
        if (!it.planned) {
            planner.plan(it);
        }
        if (!it.hasBest) {
            return NONE;
        }
        if (ofAnHour) {
            return it.bestRow[what - 10];
        }
        return what == 1 ? it.most : it.cheap;
    }

    private static int fewest(Land land) {
        for (int pairs = 0; pairs <= land.hours / 2; pairs++) {
            if (waysWith(land, pairs) > 0) {
                return 2 * pairs;
            }
        }
        return NONE;
    }

    // ---- cuts ----

    public int worth(int land, int city, int hours) {
        if (!isTold(LANDS, land) || !isCity(city)) {
            return NONE;
        }
        return now.lands[land].worthOf(city, hours);
    }

    public int envy(int land, int city, int cut) {
        if (!isTold(LANDS, land) || !isCity(city)) {
            return NONE;
        }
        Land it = now.lands[land];
        int own = city == 1 ? cut : ~cut;
        return Math.max(0, it.worthOf(city, ~own) - it.worthOf(city, own));
    }

    public int cut(int land, int how, int city) {
        if (!isTold(LANDS, land)) {
            return NONE;
        }
        Land it = now.lands[land];
        if (how == 2) {
            return it.hours <= EVEN_HOURS ? evenCut(it) : NONE;
        }
        if (!isCity(city)) {
            return NONE;
        }
        if (how == 0) {
            return cutByTurns(it, city);
        }
        return how == 1 ? cutByKnife(it, city) : NONE;
    }

    private static int cutByTurns(Land land, int first) {
        int left = land.allHours();
        int cut = 0;
        int city = first;
        for (int i = 0; i < land.hours; i++) {
            int hour = dearest(land, city, left);
            left &= ~(1 << hour);
            if (city == 1) {
                cut |= 1 << hour;
            }
            city = 1 - city;
        }
        return cut;
    }

    /** The hour of those left (bits) that is worth most to a city, of several the least. */
    private static int dearest(Land land, int city, int left) {
        int found = 0;
        int most = -1;
        for (int h = 0; h < land.hours; h++) {
            if ((left >> h & 1) == 1 && land.worthOf(city, 1 << h) > most) {
                most = land.worthOf(city, 1 << h);
                found = h;
            }
        }
        return found;
    }

    private static int cutByKnife(Land land, int cutter) {
        int all = land.allHours();
        int below = 1;
        int least = NONE;
        for (int k = 1; k < land.hours; k++) {
            int part = (1 << k) - 1;
            int apart = Math.abs(land.worthOf(cutter, part) - land.worthOf(cutter, all & ~part));
            if (least == NONE || apart < least) {
                least = apart;
                below = part;
            }
        }
        int others = all & ~below;
        int taker = 1 - cutter;
        int taken = land.worthOf(taker, others) > land.worthOf(taker, below) ? others : below;
        return taker == 1 ? taken : all & ~taken;
    }

    private int evenCut(Land land) {
        weighHours(land);
        int worth0 = land.worthOf(0, land.allHours());
        int worth1 = 0;
        int found = 0;
        int most = 0;
        for (int cut = 1; cut <= land.allHours(); cut++) {
            // from the cut before, one hour has gone to city 1 and all the hours below it to city 0
            int changed = cut ^ (cut - 1);
            for (int h = 0; h < land.hours && changed >> h != 0; h++) {
                int sign = (cut >> h & 1) == 1 ? 1 : -1;
                worth1 += sign * hourWorth[DAY + h];
                worth0 -= sign * hourWorth[h];
            }
            if (Math.min(worth0, worth1) > most) {
                most = Math.min(worth0, worth1);
                found = cut;
            }
        }
        return found;
    }

    private void weighHours(Land land) {
        for (int h = 0; h < land.hours; h++) {
            hourWorth[h] = land.worthOf(0, 1 << h);
            hourWorth[DAY + h] = land.worthOf(1, 1 << h);
        }
    }

    // ---- moves ----

    public int gain(int land, int treaty, int person, int city) {
        if (!hasRow(land, treaty) || !now.lands[land].hasPerson(person) || !isCity(city)) {
            return UNTOLD;
        }
        Land it = now.lands[land];
        weighDark(it, now.treaties[treaty]);
        return gainIn(it, it.livingAsTold(), person, city);
    }

    public int moves(int land, int treaty, int what) {
        if (!hasRow(land, treaty)) {
            return ABSENT;
        }
        Land it = now.lands[land];
        weighDark(it, now.treaties[treaty]);
        if (what == 0 || what == 1) {
            return settled(it, what == 0);
        }
        if (what == 2) {
            return countRests(it);
        }
        return what >= 100 ? restNumber(it, what - 100) : ABSENT;
    }

    /** What each one likes of the dark hours of either city, for gainIn. */
    private void weighDark(Land land, int[] where) {
        for (int p = 0; p < land.people; p++) {
            liked[2 * p] = land.likedDark(p, where, 0);
            liked[2 * p + 1] = land.likedDark(p, where, 1);
        }
    }

    /** Of one who lives in a city, when all others live as the bits say. */
    private int gainIn(Land land, int living, int person, int city) {
        int others = living & ~(1 << person);
        int inCity1 = Integer.bitCount(others);
        int there = city == 1 ? inCity1 : land.people - 1 - inCity1;
        return liked[2 * person + city] - land.crowd * there;
    }

    private boolean wouldMove(Land land, int living, int person) {
        int home = living >> person & 1;
        return gainIn(land, living, person, 1 - home) > gainIn(land, living, person, home);
    }

    private int settled(Land land, boolean askRounds) {
        int living = land.livingAsTold();
        for (int rounds = 0; rounds <= ROUNDS; rounds++) {
            int then = afterRound(land, living);
            // each one moves once in a round at most, so nobody moved if nothing has changed
            if (then == living) {
                return askRounds ? rounds : living;
            }
            living = then;
        }
        return NONE;
    }

    private int afterRound(Land land, int before) {
        int living = before;
        for (int p = 0; p < land.people; p++) {
            if (wouldMove(land, living, p)) {
                living ^= 1 << p;
            }
        }
        return living;
    }

    private boolean isRest(Land land, int living) {
        for (int p = 0; p < land.people; p++) {
            if (wouldMove(land, living, p)) {
                return false;
            }
        }
        return true;
    }

    private int countRests(Land land) {
        int rests = 0;
        for (int living = 0; living <= land.everybody(); living++) {
            rests += oneIf(isRest(land, living));
        }
        return rests;
    }

    private int restNumber(Land land, int k) {
        int left = k;
        for (int living = 0; living <= land.everybody(); living++) {
            if (isRest(land, living)) {
                if (left == 0) {
                    return living;
                }
                left--;
            }
        }
        return NONE;
    }

    // ---- bearers ----

    public int teams(int land, int k, int what) {
        if (!isTold(LANDS, land) || k < 1 || k > now.lands[land].bearers || what < 0 || what > 2) {
            return NONE;
        }
        Land it = now.lands[land];
        int codes = 1;
        int whole = 10;
        // the least number has bearer 0 in team 0, so the others alone are gone through
        for (int b = 1; b < it.bearers; b++) {
            codes *= k;
            whole *= 10;
        }
        int found = 0;
        int most = -1;
        for (int code = 0; code < codes; code++) {
            int chance = chanceOf(it, k, code);
            if (chance > most) {
                most = chance;
                found = code;
            }
        }
        int common = commonDivisor(whole, most);
        if (what == 2) {
            return inBaseEight(found, k, it.bearers);
        }
        return (what == 0 ? most : whole) / common;
    }

    /**
     * The chance that no team puts the night down, over 10 for each bearer; below 0 if a team is empty. The code
     * has each bearer's team as a figure, base k, bearer 0's the highest.
     */
    private int chanceOf(Land land, int k, int code) {
        Arrays.fill(teamTired, 1);
        Arrays.fill(teamWhole, 1);
        int rest = code;
        for (int b = land.bearers - 1; b >= 0; b--) {
            int team = k > 0 ? rest % k : 0;
            rest = k > 0 ? rest / k : 0;
            teamTired[team] *= land.tired[b];
            teamWhole[team] *= 10;
        }
        int chance = 1;
        for (int team = 0; team < k; team++) {
            if (teamWhole[team] == 1) {
                return -1;
            }
            chance *= teamWhole[team] - teamTired[team];
        }
        return chance;
    }

    private static int commonDivisor(int a, int b) {
        int more = a;
        int less = b;
        for (int i = 0; i < 64 && less > 0; i++) {
            int rest = more % less;
            more = less;
            less = rest;
        }
        return Math.max(1, more);
    }

    private static int inBaseEight(int code, int k, int figures) {
        int number = 0;
        int rest = code;
        for (int i = 0; i < figures; i++) {
            number |= (k > 0 ? rest % k : 0) << 3 * i;
            rest = k > 0 ? rest / k : 0;
        }
        return number;
    }

    public int hire(int land, int c, boolean who) {
        if (!isTold(LANDS, land) || c < 0 || c > 100) {
            return NONE;
        }
        Land it = now.lands[land];
        int found = NONE;
        int least = NONE;
        for (int team = 0; team < 1 << it.bearers; team++) {
            int cost = it.costOf(team);
            if (it.putsDownWithin(team, c) && (found == NONE || cost < least)) {
                found = team;
                least = cost;
            }
        }
        return who ? found : least;
    }

    // ---- stolen hours ----

    public int stolen(int land, int treaty, int sight, int what) {
        if (!hasRow(land, treaty) || !isTold(SIGHTS, sight) || what < 0 || what > 3) {
            return ABSENT;
        }
        Land it = now.lands[land];
        Sight saw = now.sights[sight];
        if (!saw.isOf(it)) {
            return ABSENT;
        }
        int fits = 0;
        int surely = it.allHours();
        int leastN = NONE;
        int leastFrom = NONE;
        for (int n = 0; n <= it.hours; n++) {
            int froms = n == 0 || n == it.hours ? 1 : it.hours;
            for (int from = 0; from < froms; from++) {
                int away = it.hoursFrom(from, n);
                if (saw.fits(it, now.treaties[treaty], away)) {
                    leastN = fits == 0 ? n : leastN;
                    leastFrom = fits == 0 ? from : leastFrom;
                    fits++;
                    surely &= away;
                }
            }
        }
        switch (what) {
            case 0:
                return fits;
            case 1:
                return fits == 0 ? 0 : surely;
            case 2:
                return leastN;
            default:
                return leastFrom;
        }
    }

    // ---- a third city ----

    public int game(int game, int set, int what) {
        if (!isTold(GAMES, game) || set < 0 || set >= SETS) {
            return UNTOLD;
        }
        int[] worths = now.games[game];
        if (set > 0) {
            return what == 0 ? worths[set] : UNTOLD;
        }
        if (what >= 0 && what <= 3) {
            return core(worths, what);
        }
        return what >= 4 && what <= 6 ? power(worths, what - 4) : UNTOLD;
    }

    /** How many shares the core has (what 0), or the first one's of city 0, 1, 2 (what 1, 2, 3). */
    private static int core(int[] worths, int what) {
        int all = worths[7];
        int shares = 0;
        int first = NONE;
        for (int a = 0; a <= all; a++) {
            for (int b = 0; b <= all - a; b++) {
                int c = all - a - b;
                if (nobodyLeaves(worths, a, b, c)) {
                    if (shares == 0) {
                        first = what == 1 ? a : what == 2 ? b : c;
                    }
                    shares++;
                }
            }
        }
        return what == 0 ? shares : first;
    }

    private static boolean nobodyLeaves(int[] worths, int a, int b, int c) {
        return a >= worths[1] && b >= worths[2] && c >= worths[4]
                && a + b >= worths[3] && a + c >= worths[5] && b + c >= worths[6];
    }

    private static int power(int[] worths, int city) {
        int own = 1 << city;
        int other = city == 0 ? 2 : 1;
        int third = 7 & ~own & ~other;
        // it comes first in two of the six orders, last in two, and second behind either other city in one
        return 2 * worths[own]
                + worths[own | other] - worths[other]
                + worths[own | third] - worths[third]
                + 2 * (worths[7] - worths[other | third]);
    }

    // ---- errands ----

    public int errand(int land, int treaty, int person, int hour, int n, boolean wait) {
        if (!hasRow(land, treaty) || n < 1 || n > LONGEST_ERRAND) {
            return NONE;
        }
        Land it = now.lands[land];
        if (!it.hasPerson(person) || hour < 0 || hour >= it.hours) {
            return NONE;
        }
        for (int waited = 0; waited < it.hours; waited++) {
            if (canGo(it, now.treaties[treaty], it.cityOf[person], hour + waited, n)) {
                return wait ? waited : waited + 2 * it.walk + n;
            }
        }
        return NONE;
    }

    /** Whether one of a city, leaving at an hour, finds light there, for n hours in the other, and at home. */
    private static boolean canGo(Land land, int[] where, int city, int leaving, int n) {
        int there = leaving + land.walk;
        int home = there + n + land.walk;
        if (land.at(where, leaving) == city || land.at(where, home) == city) {
            return false;
        }
        for (int i = 0; i < n; i++) {
            if (land.at(where, there + i) == 1 - city) {
                return false;
            }
        }
        return true;
    }

    public int meet(int land, int treaty, int a, int b, int hour) {
        if (!hasRow(land, treaty)) {
            return NONE;
        }
        Land it = now.lands[land];
        if (!it.hasPerson(a) || !it.hasPerson(b) || hour < 0 || hour >= it.hours) {
            return NONE;
        }
        for (int waited = 0; waited < it.hours; waited++) {
            int place = it.at(now.treaties[treaty], hour + waited);
            if (place != it.cityOf[a] && place != it.cityOf[b]) {
                return waited;
            }
        }
        return NONE;
    }

    // ---- years by a seed ----

    public int drawn(int land, int treaty, int seed, int days, int what) {
        if (!hasRow(land, treaty) || days < 1 || days > DRAWN_DAYS || what < 0) {
            return ABSENT;
        }
        Land it = now.lands[land];
        if (what > 1 && !it.hasPerson(what - 10)) {
            return ABSENT;
        }
        int[] where = now.treaties[treaty];
        if (what == 1) {
            return days * it.carryings(where);
        }
        return what == 0 ? drawnVillages(it, where, seed, days) : drawnSleep(it, where, seed, days, what - 10);
    }

    private static int draw(int x) {
        return x * 1103515245 + 12345;
    }

    /** Whether the bearer puts the night down, by the number drawn. */
    private static boolean putsDown(Land land, int bearer, int x) {
        return bearer < land.bearers && (x >>> 16) % 10 < land.tired[bearer];
    }

    private static int drawnVillages(Land land, int[] where, int seed, int days) {
        int carryings = days * land.carryings(where);
        int villages = 0;
        int bearer = 0;
        int x = seed;
        for (int i = 0; i < carryings; i++) {
            x = draw(x);
            villages += oneIf(putsDown(land, bearer, x));
            bearer = bearer + 1 < land.bearers ? bearer + 1 : 0;
        }
        return villages;
    }

    private static int drawnSleep(Land land, int[] where, int seed, int days, int person) {
        int slept = 0;
        int bearer = 0;
        int x = seed;
        for (int day = 0; day < days; day++) {
            int dark = land.dark(where, land.cityOf[person]);
            for (int h = 0; h < land.hours; h++) {
                if (land.arrives(where, h)) {
                    x = draw(x);
                    dark -= oneIf(where[h] == land.cityOf[person] && putsDown(land, bearer, x));
                    bearer = bearer + 1 < land.bearers ? bearer + 1 : 0;
                }
            }
            slept += oneIf(dark >= land.need[person]);
        }
        return slept;
    }

    // ---- what is held ----

    /** All that is told: what an image keeps. */
    private static final class Told {
        final int[] tape = new int[TAPE];
        int length;
        int fault;
        int faultPlace = NONE;
        final int[] counts = new int[SORTS];
        final Land[] lands = new Land[EACH];
        final int[][] treaties = new int[EACH][DAY];
        final Book[] books = new Book[EACH];
        final Sight[] sights = new Sight[EACH];
        final int[][] games = new int[EACH][SETS];

        Told() {
            for (int i = 0; i < EACH; i++) {
                lands[i] = new Land();
                books[i] = new Book();
                sights[i] = new Sight();
            }
        }

        /** The four bytes of a number, the highest first; the caller has seen that there is room. */
        void append(int number) {
            for (int shift = 24; shift >= 0 && length < TAPE; shift -= 8) {
                tape[length] = number >>> shift & 255;
                length++;
            }
        }

        void copyFrom(Told other) {
            System.arraycopy(other.tape, 0, tape, 0, TAPE);
            length = other.length;
            fault = other.fault;
            faultPlace = other.faultPlace;
            System.arraycopy(other.counts, 0, counts, 0, SORTS);
            for (int i = 0; i < EACH; i++) {
                lands[i].copyFrom(other.lands[i]);
                System.arraycopy(other.treaties[i], 0, treaties[i], 0, DAY);
                books[i].copyFrom(other.books[i]);
                sights[i].copyFrom(other.sights[i]);
                System.arraycopy(other.games[i], 0, games[i], 0, SETS);
            }
        }
    }

    /** A land, and what a row (where the night is at each of its hours) means in it. */
    private static final class Land {
        int hours = 12;
        int cross = 1;
        int crowd;
        int walk = 1;
        int people;
        final int[] cityOf = new int[PEOPLE];
        final int[] need = new int[PEOPLE];
        final int[] light = new int[PEOPLE];
        final int[] likes = new int[PEOPLE * DAY];
        int bearers;
        final int[] cost = new int[BEARERS];
        final int[] tired = new int[BEARERS];
        final int[] toll = new int[DAY];
        // the best row is kept once it is found, for it is asked hour by hour
        boolean planned;
        boolean hasBest;
        int most;
        int cheap;
        final int[] bestRow = new int[DAY];

        void clear() {
            hours = 12;
            cross = 1;
            crowd = 0;
            walk = 1;
            people = 0;
            bearers = 0;
            Arrays.fill(likes, 0);
            Arrays.fill(toll, 0);
            planned = false;
        }

        void copyFrom(Land other) {
            hours = other.hours;
            cross = other.cross;
            crowd = other.crowd;
            walk = other.walk;
            people = other.people;
            System.arraycopy(other.cityOf, 0, cityOf, 0, PEOPLE);
            System.arraycopy(other.need, 0, need, 0, PEOPLE);
            System.arraycopy(other.light, 0, light, 0, PEOPLE);
            System.arraycopy(other.likes, 0, likes, 0, PEOPLE * DAY);
            bearers = other.bearers;
            System.arraycopy(other.cost, 0, cost, 0, BEARERS);
            System.arraycopy(other.tired, 0, tired, 0, BEARERS);
            System.arraycopy(other.toll, 0, toll, 0, DAY);
            planned = other.planned;
            hasBest = other.hasBest;
            most = other.most;
            cheap = other.cheap;
            System.arraycopy(other.bestRow, 0, bestRow, 0, DAY);
        }

        boolean hasPerson(int person) {
            return person >= 0 && person < people;
        }

        int allHours() {
            return (1 << hours) - 1;
        }

        int everybody() {
            return (1 << people) - 1;
        }

        /** Where a row has the night at an hour counted on and on, 0 at least. */
        int at(int[] where, int hour) {
            return hours > 0 ? where[hour % hours] : BRIDGE;
        }

        int before(int[] where, int hour) {
            return at(where, hour + hours - 1);
        }

        boolean isLegal(int[] where) {
            boolean inACity = false;
            for (int h = 0; h < hours; h++) {
                int before = before(where, h);
                if (where[h] != BRIDGE) {
                    inACity = true;
                    if (cross > 0 && before == 1 - where[h]) {
                        return false;
                    }
                } else if (before != BRIDGE && !isCrossing(where, h)) {
                    return false;
                }
            }
            return inACity;
        }

        /** Whether the stay on the bridge that begins at an hour lasts as it must and leads into the other city. */
        boolean isCrossing(int[] where, int start) {
            for (int i = 0; i < cross; i++) {
                if (at(where, start + i) != BRIDGE) {
                    return false;
                }
            }
            return at(where, start + cross) == 1 - before(where, start);
        }

        /** Whether the night comes into a city at an hour, having been in the other one last. */
        boolean arrives(int[] where, int hour) {
            if (where[hour] == BRIDGE) {
                return false;
            }
            for (int back = 1; back < hours; back++) {
                int then = at(where, hour + hours - back);
                if (then != BRIDGE) {
                    return then != where[hour];
                }
            }
            return false;
        }

        int carryings(int[] where) {
            int found = 0;
            for (int h = 0; h < hours; h++) {
                found += oneIf(arrives(where, h));
            }
            return found;
        }

        int dark(int[] where, int city) {
            int found = 0;
            for (int h = 0; h < hours; h++) {
                found += oneIf(where[h] == city);
            }
            return found;
        }

        /** Those (bits) who do not sleep, if of a day the cities have so many hours of dark. */
        int sleepless(int dark0, int dark1) {
            int found = 0;
            for (int p = 0; p < people; p++) {
                int dark = cityOf[p] == 0 ? dark0 : dark1;
                if (dark < need[p] || hours - dark < light[p]) {
                    found |= 1 << p;
                }
            }
            return found;
        }

        int greatestNeed(int city) {
            int found = 0;
            for (int p = 0; p < people; p++) {
                if (cityOf[p] == city) {
                    found = Math.max(found, need[p]);
                }
            }
            return found;
        }

        /** What one likes of the hours in which a row has the night in a city. */
        int likedDark(int person, int[] where, int city) {
            int found = 0;
            for (int h = 0; h < hours; h++) {
                if (where[h] == city) {
                    found += likes[person * DAY + h];
                }
            }
            return found;
        }

        int valueOf(int[] where) {
            int found = 0;
            for (int p = 0; p < people; p++) {
                found += likedDark(p, where, cityOf[p]);
            }
            return found;
        }

        /** What a carrying costs that comes into a city at an hour. */
        int feeAt(int hour) {
            int least = bearers > 0 ? cost[0] : 0;
            for (int b = 1; b < bearers; b++) {
                least = Math.min(least, cost[b]);
            }
            return toll[hour] + least;
        }

        int priceOf(int[] where) {
            int found = 0;
            for (int h = 0; h < hours; h++) {
                if (arrives(where, h)) {
                    found += feeAt(h);
                }
            }
            return found;
        }

        /** What hours (bits) are worth to a city. */
        int worthOf(int city, int bits) {
            int found = 0;
            for (int h = 0; h < hours; h++) {
                if ((bits >> h & 1) == 1) {
                    for (int p = 0; p < people; p++) {
                        found += cityOf[p] == city ? likes[p * DAY + h] : 0;
                    }
                }
            }
            return found;
        }

        /** Those (bits) who live in city 1. */
        int livingAsTold() {
            int found = 0;
            for (int p = 0; p < people; p++) {
                found |= cityOf[p] << p;
            }
            return found;
        }

        int costOf(int team) {
            int found = 0;
            for (int b = 0; b < bearers; b++) {
                found += (team >> b & 1) * cost[b];
            }
            return found;
        }

        boolean putsDownWithin(int team, int hundredths) {
            int allTired = 1;
            int whole = 1;
            for (int b = 0; b < bearers; b++) {
                if ((team >> b & 1) == 1) {
                    allTired *= tired[b];
                    whole *= 10;
                }
            }
            return allTired * 100 <= hundredths * whole;
        }

        /** So many hours (bits) from an hour on, round. */
        int hoursFrom(int from, int n) {
            int found = 0;
            for (int i = 0; i < n && hours > 0; i++) {
                found |= 1 << (from + i) % hours;
            }
            return found;
        }
    }

    /** A book of days as they went. */
    private static final class Book {
        int spells;
        int hours;
        final int[] where = new int[SPELLS];
        final int[] lasts = new int[SPELLS];
        // where it was hour by hour
        final int[] track = new int[TOLD_HOURS];

        void clear() {
            spells = 0;
            hours = 0;
        }

        void copyFrom(Book other) {
            spells = other.spells;
            hours = other.hours;
            System.arraycopy(other.where, 0, where, 0, SPELLS);
            System.arraycopy(other.lasts, 0, lasts, 0, SPELLS);
            System.arraycopy(other.track, 0, track, 0, TOLD_HOURS);
        }

        void add(int place, int length) {
            if (spells >= SPELLS) {
                return;
            }
            where[spells] = place;
            lasts[spells] = length;
            spells++;
            for (int i = hours; i < hours + length && i < TOLD_HOURS; i++) {
                track[i] = place;
            }
            hours += length;
        }

        /** A book with more hours than may be is a fault, but it is read up to its end. */
        int trackHours() {
            return Math.min(hours, TOLD_HOURS);
        }

        /** In how many hours, from one up to (not with) another, the night was at a place. */
        int hoursAt(int place, int from, int to) {
            int found = 0;
            for (int i = Math.max(0, from); i < to && i < trackHours(); i++) {
                found += oneIf(track[i] == place);
            }
            return found;
        }

        int villages(int cross) {
            int found = 0;
            int stay = 0;
            for (int i = 0; i < trackHours(); i++) {
                stay = track[i] == BRIDGE ? stay + 1 : 0;
                // counted once, at the first hour that is too much
                found += oneIf(stay == cross + 1);
            }
            return found;
        }
    }

    /** What was seen of one night. */
    private static final class Sight {
        int seen;
        final int[] who = new int[SEEN];
        final int[] hour = new int[SEEN];
        final int[] dark = new int[SEEN];

        void copyFrom(Sight other) {
            seen = other.seen;
            System.arraycopy(other.who, 0, who, 0, SEEN);
            System.arraycopy(other.hour, 0, hour, 0, SEEN);
            System.arraycopy(other.dark, 0, dark, 0, SEEN);
        }

        void add(int person, int at, boolean sawDark) {
            if (seen >= SEEN) {
                return;
            }
            who[seen] = person;
            hour[seen] = at;
            dark[seen] = oneIf(sawDark);
            seen++;
        }

        /** Whether all of it is of people and hours of a land. */
        boolean isOf(Land land) {
            for (int i = 0; i < seen; i++) {
                if (!land.hasPerson(who[i]) || hour[i] >= land.hours) {
                    return false;
                }
            }
            return true;
        }

        /** Whether all of it would be seen so, if the night of a row were away in some hours (bits). */
        boolean fits(Land land, int[] where, int away) {
            for (int i = 0; i < seen; i++) {
                boolean there = where[hour[i]] == land.cityOf[who[i]] && (away >> hour[i] & 1) == 0;
                if (oneIf(there) != dark[i]) {
                    return false;
                }
            }
            return true;
        }
    }

    // ---- reading ----

    /** The tape's tokens, one after the other. */
    private static final class Tokens {
        static final int END = 0;
        static final int WORD = 1;
        static final int NUMBER = 2;
        static final int MARK = 3;
        static final int BAD = 4;

        int[] tape = new int[0];
        int length;
        int place;
        int behind;
        int kind;
        int value;

        void begin(int[] bytes, int count) {
            tape = bytes;
            length = Math.min(count, bytes.length);
            behind = 0;
            step();
        }

        void step() {
            while (behind < length && (tape[behind] == 10 || tape[behind] == 32)) {
                behind++;
            }
            place = behind;
            if (behind >= length) {
                kind = END;
            } else if (isWithin(behind, 'a', 'z')) {
                pass('a', 'z');
                kind = WORD;
            } else if (isWithin(behind, '0', '9')) {
                pass('0', '9');
                takeNumber();
            } else {
                kind = tape[behind] == ';' ? MARK : BAD;
                behind++;
            }
        }

        boolean isWithin(int at, int low, int high) {
            return at < length && tape[at] >= low && tape[at] <= high;
        }

        void pass(int low, int high) {
            while (behind < length && isWithin(behind, low, high)) {
                behind++;
            }
        }

        void takeNumber() {
            kind = behind - place <= 2 ? NUMBER : BAD;
            value = 0;
            for (int i = place; i < behind && kind == NUMBER; i++) {
                value = value * 10 + tape[i] - '0';
            }
        }

        boolean isWord(String word) {
            if (kind != WORD || behind - place != word.length()) {
                return false;
            }
            for (int i = 0; i < word.length(); i++) {
                if (tape[place + i] != word.charAt(i)) {
                    return false;
                }
            }
            return true;
        }
    }

    /** Reads a text of a sort, line by line, up to its end, and finds its fault. */
    private static final class Reader {
        static final int HOURS = 0;
        static final int CROSS = 1;
        static final int CROWD = 2;
        static final int WALK = 3;
        static final int PERSON = 4;
        static final int LIKES = 5;
        static final int BEARER = 6;
        static final int TOLL = 7;
        static final int NIGHT = 8;
        static final int AT = 9;
        static final int SAW = 10;
        static final int WORTH = 11;

        static final int WIDEST = 4;
        static final int[] NUMBERS = {1, 1, 1, 1, 3, 4, 2, 2, 3, 2, 2, 2};
        // of each line, the bounds of its first, second, third and fourth number
        static final int[] LOW = {
            4, 0, 0, 0, 0, 0, 0, 0, 0, 0, 0, 0, 1, 0, 0, 0,
            0, 0, 0, 0, 0, 0, 0, 0, 0, 0, 0, 0, 0, 0, 0, 0,
            0, 0, 0, 0, 0, 1, 0, 0, 0, 0, 0, 0, 1, 0, 0, 0};
        static final int[] HIGH = {
            24, 0, 0, 0, 3, 0, 0, 0, 9, 0, 0, 0, 4, 0, 0, 0,
            1, 12, 12, 0, 9, 23, 23, 9, 99, 10, 0, 0, 23, 99, 0, 0,
            2, 23, 23, 0, 2, 24, 0, 0, 9, 23, 0, 0, 7, 60, 0, 0};

        final Tokens tokens = new Tokens();
        final Land land = new Land();
        final int[] treaty = new int[DAY];
        final Book book = new Book();
        final Sight sight = new Sight();
        final int[] game = new int[SETS];

        int fault;
        int faultPlace;
        int line;
        int linePlace;
        final int[] numbers = new int[WIDEST];
        final int[] places = new int[WIDEST];
        boolean sawDark;
        // the last person and hour told of, for they may be there only by the text's end
        int lastPerson;
        int lastHour;

        void read(int sort, int[] tape, int length) {
            clear();
            tokens.begin(tape, length);
            for (int lines = 0; lines <= TAPE && tokens.kind != Tokens.END; lines++) {
                if (!readLine(sort)) {
                    fault = 1;
                    faultPlace = tokens.place;
                    return;
                }
                checkLine();
                if (fault == 0) {
                    tellLine();
                }
            }
            if (lastPerson >= land.people || lastHour >= land.hours || book.hours > TOLD_HOURS) {
                note(4, length);
            }
        }

        void clear() {
            fault = 0;
            faultPlace = NONE;
            lastPerson = NONE;
            lastHour = NONE;
            land.clear();
            Arrays.fill(treaty, BRIDGE);
            book.clear();
            sight.seen = 0;
            Arrays.fill(game, 0);
        }

        /** The first fault by place stays: lines and their numbers are checked in that order. */
        void note(int found, int place) {
            if (fault == 0) {
                fault = found;
                faultPlace = place;
            }
        }

        /** False at the first token with which no text goes on. */
        boolean readLine(int sort) {
            line = lineHere(sort);
            if (line == NONE) {
                return false;
            }
            linePlace = tokens.place;
            tokens.step();
            for (int i = 0; i < NUMBERS[line]; i++) {
                if (tokens.kind != Tokens.NUMBER) {
                    return false;
                }
                numbers[i] = tokens.value;
                places[i] = tokens.place;
                tokens.step();
            }
            if (line == SAW && !readDark()) {
                return false;
            }
            if (tokens.kind != Tokens.MARK) {
                return false;
            }
            tokens.step();
            return true;
        }

        int lineHere(int sort) {
            switch (sort) {
                case LANDS:
                    return landLineHere();
                case TREATIES:
                    return tokens.isWord("night") ? NIGHT : NONE;
                case BOOKS:
                    return tokens.isWord("at") ? AT : NONE;
                case SIGHTS:
                    return tokens.isWord("saw") ? SAW : NONE;
                default:
                    return tokens.isWord("worth") ? WORTH : NONE;
            }
        }

        int landLineHere() {
            if (tokens.isWord("hours")) {
                return HOURS;
            }
            if (tokens.isWord("cross")) {
                return CROSS;
            }
            if (tokens.isWord("crowd")) {
                return CROWD;
            }
            if (tokens.isWord("walk")) {
                return WALK;
            }
            if (tokens.isWord("person")) {
                return PERSON;
            }
            if (tokens.isWord("likes")) {
                return LIKES;
            }
            if (tokens.isWord("bearer")) {
                return BEARER;
            }
            return tokens.isWord("toll") ? TOLL : NONE;
        }

        boolean readDark() {
            sawDark = tokens.isWord("dark");
            if (!sawDark && !tokens.isWord("light")) {
                return false;
            }
            tokens.step();
            return true;
        }

        void checkLine() {
            if (isOneTooMany()) {
                note(3, linePlace);
            }
            for (int i = 0; i < NUMBERS[line]; i++) {
                if (!canBe(i)) {
                    note(2, places[i]);
                }
            }
        }

        boolean isOneTooMany() {
            switch (line) {
                case PERSON:
                    return land.people >= PEOPLE;
                case BEARER:
                    return land.bearers >= BEARERS;
                case AT:
                    return book.spells >= SPELLS;
                case SAW:
                    return sight.seen >= SEEN;
                default:
                    return false;
            }
        }

        boolean canBe(int i) {
            boolean endsSpan = i == 2 && (line == LIKES || line == NIGHT);
            if (endsSpan && numbers[2] < numbers[1]) {
                return false;
            }
            return numbers[i] >= LOW[line * WIDEST + i] && numbers[i] <= HIGH[line * WIDEST + i];
        }

        /** Only of a line without a fault. */
        void tellLine() {
            switch (line) {
                case HOURS:
                    land.hours = numbers[0];
                    break;
                case CROSS:
                    land.cross = numbers[0];
                    break;
                case CROWD:
                    land.crowd = numbers[0];
                    break;
                case WALK:
                    land.walk = numbers[0];
                    break;
                case PERSON:
                    tellPerson();
                    break;
                case LIKES:
                    tellLikes();
                    break;
                case BEARER:
                    land.cost[land.bearers] = numbers[0];
                    land.tired[land.bearers] = numbers[1];
                    land.bearers++;
                    break;
                case TOLL:
                    land.toll[numbers[0]] = numbers[1];
                    lastHour = Math.max(lastHour, numbers[0]);
                    break;
                case NIGHT:
                    Arrays.fill(treaty, numbers[1], numbers[2] + 1, numbers[0]);
                    break;
                case AT:
                    book.add(numbers[0], numbers[1]);
                    break;
                case SAW:
                    sight.add(numbers[0], numbers[1], sawDark);
                    break;
                default:
                    game[numbers[0]] = numbers[1];
                    break;
            }
        }

        void tellPerson() {
            land.cityOf[land.people] = numbers[0];
            land.need[land.people] = numbers[1];
            land.light[land.people] = numbers[2];
            land.people++;
        }

        void tellLikes() {
            int first = numbers[0] * DAY;
            Arrays.fill(land.likes, first + numbers[1], first + numbers[2] + 1, numbers[3]);
            lastPerson = Math.max(lastPerson, numbers[0]);
            lastHour = Math.max(lastHour, numbers[2]);
        }
    }

    // ---- the best row ----

    /**
     * Goes through the hours with the best that can be had of each stand: where the night is (in city 0, in city 1,
     * or at which hour of which crossing), the hours of dark in city 0, and the carryings, by which those of city 1
     * are known. Score: value, then price, then the row as a number, base 3, all in one number to be made greatest.
     */
    private static final class Planner {
        // 8 stands, 0 to 24 hours of dark, 0 to 6 carryings; no shorter crossing needs more
        static final int CELLS = 1400;
        static final long NOTHING = -0x7fffffffffffffffL;
        // more than any price: 24 carryings of 99 and 99 at most
        static final int VALUE_UNIT = 4753;

        long[] best = new long[CELLS];
        long[] then = new long[CELLS];
        final long[] rank = new long[DAY];
        final int[] points = new int[2 * DAY];
        final int[] fee = new int[DAY];
        int hours;
        int cross;
        int stands;
        int carried;
        int cells;
        long unit;

        void plan(Land land) {
            prepare(land);
            long found = NOTHING;
            for (int first = 0; first < stands; first++) {
                found = Math.max(found, bestFrom(land, first));
            }
            land.planned = true;
            land.hasBest = found != NOTHING;
            if (found != NOTHING) {
                keep(land, found);
            }
        }

        void prepare(Land land) {
            hours = land.hours;
            cross = land.cross;
            stands = 2 + 2 * cross;
            // without hours on the bridge the carryings need not be told apart
            carried = cross > 0 ? hours / (cross + 1) + 1 : 1;
            cells = Math.min(CELLS, stands * (hours + 1) * carried);
            unit = 1;
            for (int h = hours - 1; h >= 0; h--) {
                rank[h] = unit;
                unit *= 3;
                points[h] = land.worthOf(0, 1 << h) * VALUE_UNIT;
                points[DAY + h] = land.worthOf(1, 1 << h) * VALUE_UNIT;
                fee[h] = land.feeAt(h);
            }
        }

        void keep(Land land, long score) {
            long gained = -Math.floorDiv(-score, Math.max(1L, unit));
            long row = gained * unit - score;
            for (int h = hours - 1; h >= 0; h--) {
                land.bestRow[h] = (int) (row % 3);
                row /= 3;
            }
            land.most = (int) -Math.floorDiv(-gained, (long) VALUE_UNIT);
            land.cheap = (int) ((long) land.most * VALUE_UNIT - gained);
        }

        int cell(int stand, int dark0, int carryings) {
            return (stand * (hours + 1) + dark0) * carried + carryings;
        }

        /** The best of the rows that begin with a stand. */
        long bestFrom(Land land, int first) {
            Arrays.fill(best, 0, cells, NOTHING);
            best[cell(first, oneIf(first == 0), 0)] = scoreOf(first, 0);
            for (int h = 1; h < hours; h++) {
                Arrays.fill(then, 0, cells, NOTHING);
                advance(h);
                long[] spent = best;
                best = then;
                then = spent;
            }
            return bestClosed(land, first);
        }

        void advance(int hour) {
            for (int stand = 0; stand < stands; stand++) {
                for (int dark0 = 0; dark0 <= hour; dark0++) {
                    for (int carryings = 0; carryings < carried; carryings++) {
                        long score = best[cell(stand, dark0, carryings)];
                        if (score != NOTHING) {
                            enter(onward(stand), stand, dark0, carryings, score, hour);
                            enter(leaving(stand), stand, dark0, carryings, score, hour);
                        }
                    }
                }
            }
        }

        void enter(int stand, int from, int dark0, int carryings, long score, int hour) {
            if (stand == NONE) {
                return;
            }
            boolean arrives = isArrival(from, stand);
            int dark = dark0 + oneIf(stand == 0);
            int count = carryings + oneIf(arrives && cross > 0);
            if (count >= carried || dark > hours) {
                return;
            }
            int cell = cell(stand, dark, count);
            long reached = score + scoreOf(stand, hour) - (arrives ? fee[hour] * unit : 0);
            then[cell] = Math.max(then[cell], reached);
        }

        /** The best of the ends behind which the first stand comes, round. */
        long bestClosed(Land land, int first) {
            long found = NOTHING;
            for (int stand = 0; stand < stands; stand++) {
                if (onward(stand) == first || leaving(stand) == first) {
                    for (int dark0 = 0; dark0 <= hours; dark0++) {
                        found = Math.max(found, bestEnd(land, first, stand, dark0));
                    }
                }
            }
            return found;
        }

        long bestEnd(Land land, int first, int stand, int dark0) {
            boolean arrives = isArrival(stand, first);
            long found = NOTHING;
            for (int carryings = 0; carryings < carried; carryings++) {
                long score = best[cell(stand, dark0, carryings)];
                int dark1 = hours - dark0 - cross * (carryings + oneIf(arrives));
                if (score != NOTHING && land.sleepless(dark0, dark1) == 0) {
                    found = Math.max(found, score - (arrives ? fee[0] * unit : 0));
                }
            }
            return found;
        }

        long scoreOf(int stand, int hour) {
            if (stand > 1) {
                return -BRIDGE * rank[hour];
            }
            return points[stand * DAY + hour] * unit - stand * rank[hour];
        }

        static boolean isArrival(int from, int stand) {
            return stand <= 1 && from != stand;
        }

        /**
         * What comes behind a stand without leaving a city; the stands from 2 on are the hours of the crossing out of
         * city 0, then of the one out of city 1.
         */
        int onward(int stand) {
            if (stand <= 1) {
                return stand;
            }
            if (stand == 1 + cross) {
                return 1;
            }
            return stand == 1 + 2 * cross ? 0 : stand + 1;
        }

        int leaving(int stand) {
            if (stand > 1) {
                return NONE;
            }
            return cross == 0 ? 1 - stand : 2 + stand * cross;
        }
    }
}
