/** Term 1 and promises 2 to 5, 28: the least and the greatest that a text may tell, what is just not, and where. */
final class TextEdgesTest {
    private static final int NONE = NightBridge.NONE;
    private static final String TEN = Bench.times(10, "person 0 0 0;");
    private static final String[] LAND_LINES = {"hours 6 ;", "cross 1 ;", "crowd 1 ;", "walk 1 ;", "person 0 1 2 ;",
        "likes 0 1 2 3 ;", "bearer 1 2 ;", "toll 1 2 ;"};
    private static final String[][] LINES = {LAND_LINES, {"night 0 1 2 ;"}, {"at 0 1 ;"}, {"saw 0 1 dark ;", "saw 0 1 light ;"},
        {"worth 1 2 ;"}};

    /** Whether a number, told, is told as it should. */
    private interface Reading {
        boolean isTold(NightBridge x, int number);
    }

    public static void main(String[] args) {
        atFirst();
        numbersOfLands();
        numbersOfLikesAndTolls();
        numbersOfTheOthers();
        spans();
        further();
        nothingElse();
        howMany();
        hoursThatAreThere();
        peopleWhoAreThere();
        hoursOfABook();
        everyByteBehindAWord();
        everyByteBehindADigit();
        longRowsOfDigits();
        everyTokenOfALine();
        otherSorts();
        firstByPlace();
        theEnd();
        feed();
        fedBytes();
        end();
        slots();
        refusedTexts();
        fault();
        count();
        Bench.close("TextEdgesTest");
    }

    // ---- numbers ----

    private static void atFirst() {
        Bench b = new Bench();
        b.tell(Bench.LAND, "hours 24;" + TEN);
        b.tell(Bench.LAND, "");
        b.tell(Bench.TREATY, "");
        b.tell(Bench.BOOK, "");
        b.tell(Bench.SIGHT, "");
        b.tell(Bench.GAME, "");
        int[] due = {12, 1, 0, 1, 0, 0};
        for (int what = 0; what < 6; what++) {
            Bench.due("at first, land " + what, b.x.land(1, what), due[what]);
        }
        for (int h = 0; h < 24; h++) {
            Bench.due("LIKE at first of " + h, b.x.person(0, 9, 10 + h), 0);
            Bench.due("TOLL at first of " + h, b.x.land(0, 10 + h), 0);
            Bench.due("the night at first at " + h, b.x.night(0, h), 2);
        }
        Bench.due("SPELLS at first", b.x.spell(0, NONE, 0), 0);
        Bench.due("SEEN at first", b.x.seen(0, NONE, 0), 0);
        for (int set = 1; set < 8; set++) {
            Bench.due("WORTH at first of " + set, b.x.game(0, set, 0), 0);
        }
    }

    /** Every number from 0 to 100 in the place of the #, with one digit and with two: told or a FAULT at its place. */
    private static void dueNumber(int sort, String text, int least, int greatest, Reading reading) {
        int place = text.indexOf('#');
        for (int number = 0; number <= 100; number++) {
            for (String digits : new String[] {"" + number, number < 10 ? "0" + number : "" + number}) {
                Bench b = new Bench();
                String told = text.replace("#", digits);
                if (number >= least && number <= greatest) {
                    b.dueFault(sort, told, 0, NONE);
                    Bench.due("told: " + told, reading.isTold(b.x, number), true);
                } else {
                    b.dueFault(sort, told, number > 99 ? 1 : 2, place);
                }
            }
        }
    }

    private static void numbersOfLands() {
        dueNumber(Bench.LAND, "hours #;", 4, 24, (x, v) -> x.land(0, 0) == v);
        dueNumber(Bench.LAND, "cross #;", 0, 3, (x, v) -> x.land(0, 1) == v);
        dueNumber(Bench.LAND, "crowd #;", 0, 9, (x, v) -> x.land(0, 2) == v);
        dueNumber(Bench.LAND, "walk #;", 1, 4, (x, v) -> x.land(0, 3) == v);
        dueNumber(Bench.LAND, "person # 1 2;", 0, 1, (x, v) -> x.person(0, 0, 0) == v);
        dueNumber(Bench.LAND, "person 1 # 2;", 0, 12, (x, v) -> x.person(0, 0, 1) == v);
        dueNumber(Bench.LAND, "person 1 2 #;", 0, 12, (x, v) -> x.person(0, 0, 2) == v);
        dueNumber(Bench.LAND, "bearer # 1;", 0, 99, (x, v) -> x.land(0, 50) == v && x.land(0, 60) == 1);
        dueNumber(Bench.LAND, "bearer 1 #;", 0, 10, (x, v) -> x.land(0, 60) == v && x.land(0, 50) == 1);
    }

    private static void numbersOfLikesAndTolls() {
        dueNumber(Bench.LAND, TEN + "likes # 3 4 5;", 0, 9, (x, v) -> x.person(0, v, 13) == 5);
        String land = "hours 24;person 0 0 0;";
        dueNumber(Bench.LAND, land + "likes 0 # 23 5;", 0, 23, (x, v) -> x.person(0, 0, 10 + v) == 5
                && x.person(0, 0, 33) == 5 && (v == 0 || x.person(0, 0, 9 + v) == 0));
        dueNumber(Bench.LAND, land + "likes 0 0 # 5;", 0, 23, (x, v) -> x.person(0, 0, 10 + v) == 5
                && x.person(0, 0, 10) == 5 && (v == 23 || x.person(0, 0, 11 + v) == 0));
        dueNumber(Bench.LAND, land + "likes 0 7 7 #;", 0, 9, (x, v) -> x.person(0, 0, 17) == v);
        dueNumber(Bench.LAND, "hours 24;toll # 5;", 0, 23, (x, v) -> x.land(0, 10 + v) == 5
                && (v == 0 || x.land(0, 9 + v) == 0) && (v == 23 || x.land(0, 11 + v) == 0));
        dueNumber(Bench.LAND, "toll 5 #;", 0, 99, (x, v) -> x.land(0, 15) == v);
    }

    private static void numbersOfTheOthers() {
        dueNumber(Bench.TREATY, "night # 3 3;", 0, 2, (x, v) -> x.night(0, 3) == v);
        dueNumber(Bench.TREATY, "night 1 # 23;", 0, 23, (x, v) -> x.night(0, v) == 1 && x.night(0, 23) == 1
                && (v == 0 || x.night(0, v - 1) == 2));
        dueNumber(Bench.TREATY, "night 1 0 #;", 0, 23, (x, v) -> x.night(0, v) == 1 && x.night(0, 0) == 1
                && (v == 23 || x.night(0, v + 1) == 2));
        dueNumber(Bench.BOOK, "at # 7;", 0, 2, (x, v) -> x.spell(0, 0, 0) == v && x.spell(0, 0, 1) == 7);
        dueNumber(Bench.BOOK, "at 2 #;", 1, 24, (x, v) -> x.spell(0, 0, 1) == v && x.spell(0, NONE, 1) == v);
        dueNumber(Bench.SIGHT, "saw # 3 dark;", 0, 9, (x, v) -> x.seen(0, 0, 0) == v && x.seen(0, 0, 2) == 1);
        dueNumber(Bench.SIGHT, "saw 3 # light;", 0, 23, (x, v) -> x.seen(0, 0, 1) == v && x.seen(0, 0, 2) == 0);
        dueNumber(Bench.GAME, "worth # 5;", 1, 7, (x, v) -> x.game(0, v, 0) == 5);
        dueNumber(Bench.GAME, "worth 5 #;", 0, 60, (x, v) -> x.game(0, 5, 0) == v);
    }

    /** The hour up to which is not ahead of the one from which; the one from which is looked at first. */
    private static void spans() {
        dueNumber(Bench.LAND, "hours 24;person 0 0 0;likes 0 7 # 5;", 7, 23, (x, v) -> x.person(0, 0, 10 + v) == 5);
        dueNumber(Bench.TREATY, "night 1 7 #;", 7, 23, (x, v) -> x.night(0, v) == 1);
        dueNumber(Bench.TREATY, "night 1 23 #;", 23, 23, (x, v) -> x.night(0, v) == 1 && x.night(0, 22) == 2);
        for (int from = 0; from <= 99; from++) {
            int fault = from <= 7 ? 0 : 2;
            String land = "person 0 0 0;likes 0 " + from + " ";
            int place = from <= 7 ? NONE : from <= 23 ? land.length() : 21;
            new Bench().dueFault(Bench.LAND, land + "7 5;", fault, place);
            String treaty = "night 1 " + from + " ";
            place = from <= 7 ? NONE : from <= 23 ? treaty.length() : 8;
            new Bench().dueFault(Bench.TREATY, treaty + "7;", fault, place);
        }
    }

    // ---- how many there are, later ones ----

    private static void further() {
        Bench b = new Bench();
        b.tell(Bench.LAND, "hours 24;cross 3;crowd 9;walk 4;hours 6;cross 0;crowd 0;walk 1;");
        int[] due = {6, 0, 0, 1};
        for (int what = 0; what < 4; what++) {
            Bench.due("the later one, " + what, b.x.land(0, what), due[what]);
        }
        b.tell(Bench.LAND, 0, "person 1 2 3;person 1 2 3;likes 1 0 11 9;likes 1 4 5 0;bearer 7 8;bearer 7 8;toll 3 9;toll 3 0;");
        Bench.due("PEOPLE are further ones", b.x.land(0, 4), 2);
        Bench.due("BEARERS are further ones", b.x.land(0, 5), 2);
        Bench.due("a later TOLL", b.x.land(0, 13), 0);
        for (int h = 0; h < 12; h++) {
            Bench.due("a later LIKE of " + h, b.x.person(0, 1, 10 + h), h == 4 || h == 5 ? 0 : 9);
            Bench.due("a LIKE of another one of " + h, b.x.person(0, 0, 10 + h), 0);
        }
        b.tell(Bench.TREATY, "night 0 0 23;night 1 4 5;night 2 5 5;");
        for (int h = 0; h < 24; h++) {
            Bench.due("the later night at " + h, b.x.night(0, h), h == 4 ? 1 : h == 5 ? 2 : 0);
        }
        b.tell(Bench.BOOK, "at 1 2;at 1 2;");
        Bench.due("SPELLS are further ones", b.x.spell(0, NONE, 0), 2);
        b.tell(Bench.SIGHT, "saw 1 2 dark;saw 1 2 light;");
        Bench.due("SEEN ones are further ones", b.x.seen(0, NONE, 0), 2);
        b.tell(Bench.GAME, "worth 3 9;worth 3 0;worth 7 60;");
        Bench.due("a later WORTH", b.x.game(0, 3, 0), 0);
        Bench.due("a WORTH of another set", b.x.game(0, 7, 0), 60);
    }

    /** A line tells of its own thing alone, a text of its own sort and number alone. */
    private static void nothingElse() {
        String[] lines = {"hours 5;", "cross 3;", "crowd 5;", "walk 3;", "person 1 3 3;", "bearer 3 3;"};
        int[] told = {5, 3, 5, 3, 1, 1};
        int[] first = {12, 1, 0, 1, 0, 0};
        for (int line = 0; line < lines.length; line++) {
            Bench b = new Bench();
            b.tell(Bench.LAND, lines[line]);
            for (int what = 0; what < 6; what++) {
                Bench.due("land, " + what + ", by " + lines[line], b.x.land(0, what), what == line ? told[what] : first[what]);
            }
        }
        Bench b = new Bench();
        String[] texts = {"hours 5;", "night 1 3 3;", "at 1 3;", "saw 1 3 dark;", "worth 3 3;"};
        for (int sort = 0; sort < 5; sort++) {
            b.tell(sort, texts[sort]);
            b.tell(sort, texts[sort]);
        }
        for (int sort = 0; sort < 5; sort++) {
            for (int at = 0; at < 2; at++) {
                Bench.due("anew, sort " + sort + ", " + at, b.tell(sort, at, ""), at);
                for (int other = 0; other < 5; other++) {
                    for (int i = 0; i < 2; i++) {
                        boolean empty = other < sort || other == sort && i <= at;
                        Bench.due("sort " + other + ", " + i, isAsTold(b.x, other, i), !empty);
                    }
                }
            }
        }
    }

    private static boolean isAsTold(NightBridge x, int sort, int at) {
        int[] asked = {x.land(at, 0) == 5 ? 1 : 0, x.night(at, 3), x.spell(at, NONE, 0), x.seen(at, NONE, 0),
            x.game(at, 3, 0) == 3 ? 1 : 0};
        return asked[sort] == 1;
    }

    /** So many lines are told; one more is a FAULT 3 at its first token, be its own numbers what they may. */
    private static void dueAtMost(int sort, int most, String line, String badLine) {
        String told = Bench.times(most, line);
        new Bench().dueFault(sort, Bench.times(most - 1, line), 0, NONE);
        new Bench().dueFault(sort, told, 0, NONE);
        new Bench().dueFault(sort, told + " " + line, 3, told.length() + 1);
        new Bench().dueFault(sort, told + badLine, 3, told.length());
        new Bench().dueFault(sort, told + line + line + badLine, 3, told.length());
        // a line with a NUMBER that can't be tells its one all the same, but it comes first
        new Bench().dueFault(sort, badLine + told, 2, badLine.indexOf("88"));
        String behind = told.substring(line.length()) + badLine;
        new Bench().dueFault(sort, behind + line, 2, behind.indexOf("88"));
    }

    private static void howMany() {
        dueAtMost(Bench.LAND, 10, "person 0 0 0;", "person 0 88 0;");
        dueAtMost(Bench.LAND, 6, "bearer 0 0;", "bearer 0 88;");
        dueAtMost(Bench.BOOK, 30, "at 0 1;", "at 88 1;");
        dueAtMost(Bench.SIGHT, 20, "saw 0 0 dark;", "saw 0 88 dark;");
        Bench b = new Bench();
        b.dueFault(Bench.LAND, TEN + Bench.times(6, "bearer 1 2;"), 0, NONE);
        Bench.due("ten PEOPLE", b.x.land(0, 4), 10);
        Bench.due("six BEARERS", b.x.land(0, 5), 6);
        b.dueFault(Bench.BOOK, Bench.times(30, "at 0 3;"), 0, NONE);
        Bench.due("thirty SPELLS", b.x.spell(0, NONE, 0), 30);
        Bench.due("their hours", b.x.spell(0, NONE, 1), 90);
        b.dueFault(Bench.SIGHT, Bench.times(20, "saw 0 0 dark;"), 0, NONE);
        Bench.due("twenty SEEN ones", b.x.seen(0, NONE, 0), 20);
    }

    // ---- FAULT 4 ----

    private static void hoursThatAreThere() {
        for (int hours : new int[] {4, 5, 11, 12, 13, 23, 24}) {
            for (int h = 0; h < 24; h++) {
                int fault = h < hours ? 0 : 4;
                String[] texts = {"hours " + hours + ";person 0 0 0;likes 0 0 " + h + " 0;",
                    "person 0 0 0;likes 0 " + h + " " + h + " 1;hours " + hours + ";",
                    "hours " + hours + ";toll " + h + " 0;", "hours 24;toll " + h + " 1;toll 0 0;hours " + hours + "; "};
                for (String text : texts) {
                    new Bench().dueFault(Bench.LAND, text, fault, fault == 0 ? NONE : text.length());
                }
            }
        }
        new Bench().dueFault(Bench.LAND, "toll 11 1;person 0 0 0;likes 0 11 11 1;", 0, NONE);
        new Bench().dueFault(Bench.LAND, "toll 12 1;", 4, 10);
        // told of is told of, though a later line strikes it
        new Bench().dueFault(Bench.LAND, "hours 24;toll 12 1;toll 3 1;hours 12;", 4, 37);
        new Bench().dueFault(Bench.LAND, "person 0 0 0;likes 0 3 12 1;likes 0 3 4 1;", 4, 42);
    }

    private static void peopleWhoAreThere() {
        for (int people = 0; people <= 10; people++) {
            for (int who = 0; who < 10; who++) {
                String told = Bench.times(people, "person 0 0 0;");
                String likes = "likes " + who + " 0 0 0;";
                int fault = who < people ? 0 : 4;
                new Bench().dueFault(Bench.LAND, told + likes, fault, fault == 0 ? NONE : told.length() + likes.length());
                new Bench().dueFault(Bench.LAND, likes + told, fault, fault == 0 ? NONE : told.length() + likes.length());
            }
        }
        new Bench().dueFault(Bench.LAND, "likes 1 0 0 0;likes 0 0 0 0;person 0 0 0;", 4, 41);
    }

    private static void hoursOfABook() {
        String days = Bench.times(4, "at 0 24;");
        new Bench().dueFault(Bench.BOOK, days, 0, NONE);
        new Bench().dueFault(Bench.BOOK, days + "at 0 1;", 4, 39);
        new Bench().dueFault(Bench.BOOK, "at 2 1;" + days + "\n", 4, 40);
        new Bench().dueFault(Bench.BOOK, Bench.times(30, "at 1 3;").replaceFirst("3", "9"), 0, NONE);
        new Bench().dueFault(Bench.BOOK, Bench.times(30, "at 1 3;").replaceFirst("3", "10"), 4, 211);
        new Bench().dueFault(Bench.BOOK, Bench.times(30, "at 1 24;"), 4, 240);
        Bench b = new Bench();
        b.tell(Bench.BOOK, Bench.times(3, "at 0 24;") + "at 1 23;at 2 1;");
        Bench.due("all 96 hours", b.x.spell(0, NONE, 1), 96);
    }

    // ---- FAULT 1 ----

    /** A letter makes the word longer; a digit is the NUMBER, and the 6 one too many; blanks part; all else is no token. */
    private static void everyByteBehindAWord() {
        for (int sign = 0; sign < 256; sign++) {
            boolean letter = sign >= 'a' && sign <= 'z';
            boolean digit = sign >= '0' && sign <= '9';
            boolean blank = sign == 10 || sign == 32;
            String text = "hours" + (char) sign + " 6;";
            new Bench().dueFault(Bench.LAND, text, blank ? 0 : 1, blank ? NONE : letter ? 0 : digit ? 7 : 5);
            text = (char) sign + "hours 6;";
            new Bench().dueFault(Bench.LAND, text, blank ? 0 : 1, blank ? NONE : 0);
            text = "hours 6;" + (char) sign;
            new Bench().dueFault(Bench.LAND, text, blank ? 0 : 1, blank ? NONE : 8);
        }
    }

    private static void everyByteBehindADigit() {
        for (int sign = 0; sign < 256; sign++) {
            boolean digit = sign >= '0' && sign <= '9';
            boolean blank = sign == 10 || sign == 32;
            Bench b = new Bench();
            b.dueFault(Bench.LAND, "hours 1" + (char) sign + ";", digit ? 0 : blank ? 2 : 1,
                    digit ? NONE : blank ? 6 : sign == ';' ? 8 : 7);
            Bench.due("HOURS by 1 and " + sign, b.x.land(0, 0), digit ? 10 + sign - '0' : NONE);
        }
    }

    private static void longRowsOfDigits() {
        for (String digits : new String[] {"000", "006", "060", "100", "999", "0000", "123456", Bench.times(500, "1")}) {
            new Bench().dueFault(Bench.LAND, "hours  " + digits + ";", 1, 7);
            new Bench().dueFault(Bench.LAND, "hours 6 " + digits + ";", 1, 8);
            new Bench().dueFault(Bench.LAND, " " + digits, 1, 1);
            new Bench().dueFault(Bench.BOOK, "at" + digits + " 1;", 1, 2);
            new Bench().dueFault(Bench.BOOK, "at 0 1;at 0 " + digits, 1, 12);
        }
        // blanks part NUMBERS, and nothing else does
        new Bench().dueFault(Bench.BOOK, "at 00 12;", 0, NONE);
        new Bench().dueFault(Bench.BOOK, "at\n0\n12\n;\n", 0, NONE);
        new Bench().dueFault(Bench.BOOK, "at0 1;at 0 1;", 0, NONE);
        new Bench().dueFault(Bench.BOOK, "at01;", 1, 4);
    }

    /** A line that ends too early, or has another token or byte in the place of one, has its FAULT there. */
    private static void everyTokenOfALine() {
        for (int sort = 0; sort < LINES.length; sort++) {
            for (String line : LINES[sort]) {
                String first = LINES[sort][0];
                int ahead = sort == Bench.LAND ? "person 0 0 0;".length() : 0;
                String text = "person 0 0 0;".substring(0, ahead) + line;
                new Bench().dueFault(sort, text, 0, NONE);
                String[] tokens = line.split(" ");
                int place = ahead;
                for (String token : tokens) {
                    String cut = text.substring(0, place);
                    if (place > ahead) {
                        new Bench().dueFault(sort, cut, 1, place);
                        new Bench().dueFault(sort, cut + "\n ", 1, place + 2);
                    }
                    for (String other : new String[] {"zzz", "#", "100", "hours", "dar", "lights"}) {
                        if (place > ahead || sort != Bench.LAND || !other.equals("hours")) {
                            new Bench().dueFault(sort, cut + other + " " + first, 1, place);
                        }
                    }
                    boolean isNumber = token.charAt(0) >= '0' && token.charAt(0) <= '9';
                    if (!isNumber) {
                        new Bench().dueFault(sort, cut + "3 ;", 1, place);
                    }
                    if (!token.equals(";")) {
                        new Bench().dueFault(sort, cut + ";", 1, place);
                    }
                    place += token.length() + 1;
                }
            }
        }
    }

    private static void otherSorts() {
        for (int sort = 0; sort < LINES.length; sort++) {
            for (int other = 0; other < LINES.length; other++) {
                for (String line : LINES[other]) {
                    if (sort != other) {
                        new Bench().dueFault(sort, line, 1, 0);
                        new Bench().dueFault(sort, " " + LINES[sort][0] + line, 1, LINES[sort][0].length() + 1);
                    }
                }
            }
        }
        // a byte of a token's middle does not tell: the token's first one
        new Bench().dueFault(Bench.LAND, "hours 6;hourz 6;", 1, 8);
        new Bench().dueFault(Bench.SIGHT, "saw 0 0 darker;", 1, 8);
        new Bench().dueFault(Bench.SIGHT, "saw 0 0 ligh;", 1, 8);
    }

    // ---- which FAULT of several ----

    private static void firstByPlace() {
        // 1 ahead of all, though it comes last
        new Bench().dueFault(Bench.LAND, "hours 3;" + TEN + "person 0 0 0;likes 9 23 23 0;;", 1, 167);
        new Bench().dueFault(Bench.BOOK, Bench.times(31, "at 3 0;") + "at", 1, 219);
        // of 2 and 3 the first by place, on either side
        new Bench().dueFault(Bench.LAND, TEN + "hours 3;person 0 0 0;", 2, 136);
        new Bench().dueFault(Bench.LAND, TEN + "person 0 0 0;hours 3;", 3, 130);
        new Bench().dueFault(Bench.LAND, Bench.times(6, "bearer 0 0;") + "bearer 0 0;" + TEN + "person 0 0 0;", 3, 66);
        new Bench().dueFault(Bench.LAND, TEN + "person 0 0 0;" + Bench.times(7, "bearer 0 0;"), 3, 130);
        // the first of one line's NUMBERS
        new Bench().dueFault(Bench.LAND, "person 2 13 13;", 2, 7);
        new Bench().dueFault(Bench.LAND, "person 1 13 13;", 2, 9);
        new Bench().dueFault(Bench.LAND, "person 1 12 13;", 2, 12);
        new Bench().dueFault(Bench.LAND, "likes 10 24 24 10;", 2, 6);
        new Bench().dueFault(Bench.LAND, "likes 9 24 24 10;", 2, 8);
        new Bench().dueFault(Bench.LAND, "likes 9 23 24 10;", 2, 11);
        new Bench().dueFault(Bench.LAND, "likes 9 23 22 10;", 2, 11);
        new Bench().dueFault(Bench.LAND, "likes 9 23 23 10;", 2, 14);
        new Bench().dueFault(Bench.LAND, "toll 24 0;", 2, 5);
        // 4 behind all, though what is wrong comes first
        new Bench().dueFault(Bench.LAND, "likes 0 0 0 0;toll 23 0;walk 5;", 2, 29);
        new Bench().dueFault(Bench.LAND, "toll 23 0;" + TEN + "person 0 0 0;", 3, 140);
        new Bench().dueFault(Bench.BOOK, Bench.times(5, "at 0 24;") + "at 3 1;", 2, 43);
        new Bench().dueFault(Bench.BOOK, Bench.times(31, "at 0 24;"), 3, 240);
    }

    /** The end's place is how many bytes the tape has. */
    private static void theEnd() {
        new Bench().dueFault(Bench.LAND, "toll 12 1;", 4, 10);
        new Bench().dueFault(Bench.LAND, "toll 12 1; \n", 4, 12);
        new Bench().dueFault(Bench.LAND, "toll 12 1", 1, 9);
        new Bench().dueFault(Bench.LAND, "toll 12 1 ", 1, 10);
        Bench b = new Bench();
        b.put("toll 12 1;hours 24;");
        b.x.end(10);
        Bench.due("a text cut short", b.x.text(Bench.LAND, NONE), NONE);
        Bench.due("its FAULT", b.x.fault(0), 4);
        Bench.due("its place", b.x.fault(1), 10);
        b.put("hours 24;");
        b.x.end(7);
        Bench.due("HOURS cut short", b.x.text(Bench.LAND, NONE), NONE);
        Bench.due("its place, too", b.x.fault(1), 7);
        for (int sort = 0; sort < 5; sort++) {
            new Bench().dueFault(sort, "", 0, NONE);
            new Bench().dueFault(sort, " ", 0, NONE);
        }
    }

    // ---- the tape ----

    private static void feed() {
        for (int have : new int[] {0, 1, 19, 20, 579, 580, 581, 599, 600}) {
            Bench b = new Bench();
            b.put(Bench.times(have / 8, "hours 7;") + Bench.times(have % 8, "\n"));
            boolean room = have + 20 <= 600;
            // twenty blanks behind it, if they come
            int fed = b.x.feed(0x20202020, 0x20202020, 0x20202020, 0x20202020, 0x20202020);
            Bench.due("feed behind " + have, fed, room ? have + 20 : NONE);
            int has = room ? have + 20 : have;
            Bench.due("more than " + has, b.x.end(has + 1), NONE);
            Bench.due("all of " + has, b.x.end(has), has);
            Bench.due("what " + have + " tell", b.x.text(Bench.LAND, NONE), 0);
            Bench.due("HOURS of " + have, b.x.land(0, 0), have < 8 ? 12 : 7);
        }
        // a whole tape is one text, and its end is at 600
        new Bench().dueFault(Bench.LAND, Bench.times(75, "hours 7;"), 0, NONE);
        new Bench().dueFault(Bench.LAND, Bench.times(74, "hours 7;") + "hours 7 ", 1, 600);
        new Bench().dueFault(Bench.LAND, Bench.times(74, "hours 7;") + "hours 7#", 1, 599);
        new Bench().dueFault(Bench.LAND, Bench.times(74, "hours 7;") + "hours 77", 1, 600);
        new Bench().dueFault(Bench.LAND, Bench.times(600, "z"), 1, 0);
        new Bench().dueFault(Bench.LAND, Bench.times(600, ";"), 1, 0);
        new Bench().dueFault(Bench.LAND, "toll 12 9;" + Bench.times(590, "\n"), 4, 600);
        NightBridge x = new NightBridge();
        for (int i = 1; i <= 30; i++) {
            Bench.due("feed " + i, x.feed(i, i, i, i, i), 20 * i);
        }
        Bench.due("feed 31", x.feed(0, 0, 0, 0, 0), NONE);
        x.text(Bench.LAND, NONE);
        Bench.due("feed behind a text", x.feed(0, 0, 0, 0, 0), 20);
    }

    /** Of each number the highest byte first, in its sign's place too, five numbers one behind the other. */
    private static void fedBytes() {
        int[] lines = {0x61742030, 0x20313b20, 0x61742031, 0x20323b20, 0x61742032, 0x20333b20};
        NightBridge x = new NightBridge();
        x.feed(lines[0], lines[1], lines[2], lines[3], lines[4]);
        x.feed(lines[5], 0x20202020, 0x20202020, 0x20202020, 0x20202020);
        Bench.due("five numbers and one", x.text(Bench.BOOK, NONE), 0);
        for (int k = 0; k < 3; k++) {
            Bench.due("where of " + k, x.spell(0, k, 0), k);
            Bench.due("hours of " + k, x.spell(0, k, 1), k + 1);
        }
        for (int at = 0; at < 20; at++) {
            int[] numbers = {0x20202020, 0x20202020, 0x20202020, 0x20202020, 0x20202020};
            numbers[at / 4] |= 0xff << 24 - at % 4 * 8;
            x.feed(numbers[0], numbers[1], numbers[2], numbers[3], numbers[4]);
            Bench.due("a byte 255", x.text(Bench.BOOK, NONE), NONE);
            Bench.due("FAULT of a byte 255", x.fault(0), 1);
            Bench.due("place of a byte 255", x.fault(1), at);
        }
        x.feed(-1, -1, -1, -1, -1);
        x.text(Bench.BOOK, NONE);
        Bench.due("place of -1", x.fault(1), 0);
    }

    private static void end() {
        for (int have : new int[] {0, 1, 20, 599, 600}) {
            Bench b = new Bench();
            String text = Bench.times(have, " ");
            int[] refused = {have + 1, -1, Integer.MIN_VALUE, Integer.MAX_VALUE};
            for (int n : refused) {
                b.put(text);
                Bench.due("end(" + n + ") of " + have, b.x.end(n), NONE);
                Bench.due("none is gone by it", b.x.end(have), have);
            }
            for (int n : new int[] {0, have / 2, Math.max(0, have - 1), have}) {
                b.put(text);
                Bench.due("end(" + n + ") of " + have, b.x.end(n), n);
                Bench.due("no more than " + n, b.x.end(n + 1), NONE);
                Bench.due("as many as " + n, b.x.end(n), n);
            }
        }
        // what was cut off does not come back
        Bench b = new Bench();
        b.put("hours 6;hours 7;");
        b.x.end(8);
        b.x.feed(0x20202020, 0x20202020, 0x20202020, 0x20202020, 0x20202020);
        b.x.text(Bench.LAND, NONE);
        Bench.due("HOURS behind end(8)", b.x.land(0, 0), 6);
    }

    // ---- texts and their numbers ----

    private static void slots() {
        for (int sort = 0; sort < 5; sort++) {
            Bench b = new Bench();
            int[] numbers = {-2, 0, 1, 2, 3, Integer.MIN_VALUE, Integer.MAX_VALUE};
            for (int count = 0; count <= 2; count++) {
                for (int at : numbers) {
                    boolean there = at >= 0 && at < count;
                    Bench.due(count + " told, in the place of " + at, b.tell(sort, at, ""), there ? at : -2);
                    Bench.due("FAULT of it", b.x.fault(0), 0);
                    Bench.due("place of it", b.x.fault(1), NONE);
                    Bench.due("how many then", b.x.count(sort), count);
                }
                Bench.due(count + " told, a further one", b.tell(sort, ""), count < 2 ? count : -2);
            }
        }
    }

    private static void refusedTexts() {
        int[][] refused = {{-1, NONE}, {5, NONE}, {Integer.MIN_VALUE, NONE}, {Integer.MAX_VALUE, NONE}, {5, 0}, {-1, 0},
            {Bench.LAND, 1}, {Bench.LAND, -2}, {Bench.TREATY, 0}, {Bench.GAME, NONE}};
        for (int[] one : refused) {
            Bench b = new Bench();
            b.tell(Bench.GAME, "worth 1 1;");
            b.tell(Bench.GAME, "worth 1 2;");
            b.tell(Bench.LAND, "hours 7;");
            b.tell(Bench.LAND, 0, "hours 3;");
            Bench.due("the FAULT ahead of it", b.x.fault(0), 2);
            b.put("hours 3;#");
            Bench.due("text(" + one[0] + ", " + one[1] + ")", b.x.text(one[0], one[1]), -2);
            Bench.due("FAULT of a text that is not read", b.x.fault(0), 0);
            Bench.due("place of a text that is not read", b.x.fault(1), NONE);
            Bench.due("the tape is empty", b.x.end(1), NONE);
            Bench.due("LANDS", b.x.count(Bench.LAND), 1);
            Bench.due("HOURS", b.x.land(0, 0), 7);
            Bench.due("GAMES", b.x.count(Bench.GAME), 2);
            Bench.due("WORTH", b.x.game(1, 1, 0), 2);
        }
        for (int sort = 0; sort < 5; sort++) {
            Bench b = new Bench();
            b.tell(sort, "");
            b.tell(sort, "");
            b.put("#");
            Bench.due("a third of sort " + sort, b.x.text(sort, NONE), -2);
            Bench.due("FAULT of a third", b.x.fault(0), 0);
            Bench.due("the tape behind a third", b.x.end(1), NONE);
            Bench.due("in the place of the second", b.tell(sort, 1, "#"), NONE);
            Bench.due("its FAULT", b.x.fault(0), 1);
            Bench.due("as many as before", b.x.count(sort), 2);
        }
    }

    private static void fault() {
        Bench b = new Bench();
        Bench.dueFrom("fault of a new object", b.x::fault, 0, NONE, 0, NONE);
        b.tell(Bench.LAND, "hours 7; hours 25;");
        Bench.dueFrom("fault 2", b.x::fault, 0, NONE, 2, 15);
        b.tell(Bench.BOOK, "#");
        Bench.dueFrom("fault 1", b.x::fault, 0, NONE, 1, 0);
        b.tell(Bench.LAND, TEN + "person 0 0 0;");
        Bench.dueFrom("fault 3", b.x::fault, 0, NONE, 3, 130);
        b.tell(Bench.LAND, "toll 23 0;");
        Bench.dueFrom("fault 4", b.x::fault, 0, NONE, 4, 10);
        b.put("hours 3;");
        Bench.dueFrom("fault of the latest text()", b.x::fault, 0, NONE, 4, 10);
        b.tell(Bench.LAND, "");
        Bench.dueFrom("no fault", b.x::fault, 0, NONE, 0, NONE);
    }

    private static void count() {
        Bench b = new Bench();
        Bench.dueFrom("count at first", b.x::count, 0, -2, 0, 0, 0, 0, 0);
        b.tell(Bench.TREATY, "");
        b.tell(Bench.SIGHT, "");
        b.tell(Bench.SIGHT, "");
        b.tell(Bench.SIGHT, "");
        b.tell(Bench.LAND, "#");
        Bench.dueFrom("count", b.x::count, 0, -2, 0, 1, 0, 2, 0);
        b.tell(Bench.LAND, "");
        b.tell(Bench.BOOK, "");
        b.tell(Bench.BOOK, "");
        b.tell(Bench.GAME, "");
        b.tell(Bench.GAME, 0, "");
        Bench.dueFrom("count then", b.x::count, 0, -2, 1, 1, 2, 2, 1);
    }
}
