/** Promises 1 to 5 and 28 to 30: the tape, texts and their faults, counts, images. */
final class TapeTest {
    private static final int NONE = NightBridge.NONE;

    public static void main(String[] args) {
        newObject();
        feed();
        end();
        text();
        fault();
        faultsOfSyntax();
        faultsOfLands();
        faultsOfTheOthers();
        count();
        images();
        Bench.close("TapeTest");
    }

    private static void newObject() {
        NightBridge x = new NightBridge();
        Bench.due("NONE", NONE, -1);
        for (int sort = 0; sort < 5; sort++) {
            Bench.due("count of a new object", x.count(sort), 0);
        }
        for (int k = 0; k < 3; k++) {
            Bench.due("again of a new object", x.again(k), false);
        }
        Bench.due("fault(0) of a new object", x.fault(0), 0);
        Bench.due("fault(1) of a new object", x.fault(1), NONE);
        Bench.due("the tape of a new object", x.end(1), NONE);
        Bench.due("land of a new object", x.land(0, 0), NONE);
        Bench.due("night of a new object", x.night(0, 0), NONE);
        Bench.due("spell of a new object", x.spell(0, NONE, 0), -2);
        Bench.due("seen of a new object", x.seen(0, NONE, 0), -2);
        Bench.due("game of a new object", x.game(0, 0, 0), -1000);
        Bench.due("ways of a new object", x.ways(0), NONE);
    }

    private static void feed() {
        NightBridge x = new NightBridge();
        for (int i = 1; i <= 30; i++) {
            Bench.due("feed " + i, x.feed(0, 0, 0, 0, 0), 20 * i);
        }
        Bench.due("feed beyond 600", x.feed(0, 0, 0, 0, 0), NONE);
        Bench.due("nothing has come", x.end(600), 600);
        Bench.due("end beyond 600", x.end(601), NONE);
        x.end(581);
        Bench.due("feed to 601", x.feed(0, 0, 0, 0, 0), NONE);
        x.end(580);
        Bench.due("feed to 600", x.feed(0, 0, 0, 0, 0), 600);

        // "at 0 1;at 1 2;at 2 3" and one byte: of each number the highest first
        NightBridge y = new NightBridge();
        y.feed(0x61742030, 0x20313b61, 0x74203120, 0x323b6174, 0x20322033);
        Bench.due("feed behind it", y.feed(0x3b000000, 0, 0, 0, 0), 40);
        y.end(21);
        Bench.due("text fed by numbers", y.text(Bench.BOOK, NONE), 0);
        Bench.due("hours fed by numbers", y.spell(0, NONE, 1), 6);
        // bytes above 127 are no blanks, letters or digits
        y.feed(0x20ff2020, 0, 0, 0, 0);
        y.end(2);
        Bench.due("text of a byte 255", y.text(Bench.BOOK, NONE), NONE);
        Bench.due("fault of a byte 255", y.fault(0), 1);
        Bench.due("place of a byte 255", y.fault(1), 1);
    }

    private static void end() {
        NightBridge x = new NightBridge();
        Bench.due("end(0) of nothing", x.end(0), 0);
        Bench.due("end(1) of nothing", x.end(1), NONE);
        x.feed(1, 2, 3, 4, 5);
        Bench.due("end(-1)", x.end(-1), NONE);
        Bench.due("end(least)", x.end(Integer.MIN_VALUE), NONE);
        Bench.due("end(21)", x.end(21), NONE);
        Bench.due("end(20)", x.end(20), 20);
        Bench.due("end(7)", x.end(7), 7);
        Bench.due("end(8) behind end(7)", x.end(8), NONE);
        Bench.due("feed behind end(7)", x.feed(1, 2, 3, 4, 5), 27);
    }

    private static void text() {
        Bench b = new Bench();
        Bench.due("an empty land", b.tell(Bench.LAND, ""), 0);
        Bench.due("a land of blanks", b.tell(Bench.LAND, " \n  "), 1);
        Bench.due("a third land", b.tell(Bench.LAND, "hours 6;"), -2);
        Bench.due("the tape is empty", b.x.end(1), NONE);
        Bench.due("fault of a third land", b.x.fault(0), 0);
        Bench.due("in the place of land 1", b.tell(Bench.LAND, 1, "hours 6;"), 1);
        Bench.due("HOURS of land 1", b.x.land(1, 0), 6);
        Bench.due("HOURS of land 0", b.x.land(0, 0), 12);
        Bench.due("in the place of land 2", b.tell(Bench.LAND, 2, ""), -2);
        Bench.due("in the place of land -2", b.tell(Bench.LAND, -2, ""), -2);
        Bench.due("a fault in the place of land 1", b.tell(Bench.LAND, 1, "hours 3;"), NONE);
        Bench.due("HOURS after a fault", b.x.land(1, 0), 6);
        Bench.due("FAULT after a fault", b.x.fault(0), 2);
        Bench.due("a text of no sort", b.tell(5, "hours 6;"), -2);
        Bench.due("FAULT after no sort", b.x.fault(0), 0);
        Bench.due("place after no sort", b.x.fault(1), NONE);
        Bench.due("tape after no sort", b.x.end(1), NONE);
        Bench.due("a text of sort -1", b.tell(-1, ""), -2);
        Bench.due("treaty 0 in place before there is one", b.tell(Bench.TREATY, 0, ""), -2);
        for (int sort = 1; sort < 5; sort++) {
            Bench.due("an empty text of sort " + sort, b.tell(sort, ""), 0);
            Bench.due("another of sort " + sort, b.tell(sort, ""), 1);
            Bench.due("a third of sort " + sort, b.tell(sort, "#"), -2);
            Bench.due("no text is read", b.x.fault(0), 0);
        }
        // what a land told does not stay behind in the next one
        b.tell(Bench.LAND, 0, "hours 24;person 1 3 4;likes 0 0 23 9;toll 23 5;bearer 3 4;crowd 2;walk 3;cross 0;");
        b.tell(Bench.LAND, 0, "hours 24;person 0 0 0;");
        Bench.due("likes of before", b.x.person(0, 0, 33), 0);
        Bench.due("toll of before", b.x.land(0, 33), 0);
        Bench.due("bearers of before", b.x.land(0, 5), 0);
        Bench.due("people of before", b.x.land(0, 4), 1);
        Bench.due("cross of before", b.x.land(0, 1), 1);
        Bench.due("crowd of before", b.x.land(0, 2), 0);
        Bench.due("walk of before", b.x.land(0, 3), 1);
        // nor in the next one of the other sorts
        b.tell(Bench.TREATY, 0, "night 1 0 23;");
        b.tell(Bench.TREATY, 0, "");
        Bench.due("night of before", b.x.night(0, 5), 2);
        b.tell(Bench.GAME, 0, "worth 7 9;");
        b.tell(Bench.GAME, 0, "");
        Bench.due("worth of before", b.x.game(0, 7, 0), 0);
        b.tell(Bench.SIGHT, 0, "saw 0 0 dark;");
        b.tell(Bench.SIGHT, 0, "");
        Bench.due("seen before", b.x.seen(0, NONE, 0), 0);
        b.tell(Bench.BOOK, 0, "at 0 5;");
        b.tell(Bench.BOOK, 0, "");
        Bench.due("hours of before", b.x.spell(0, NONE, 1), 0);
    }

    private static void fault() {
        Bench b = new Bench();
        b.dueFault(Bench.LAND, "hours 6; hours 25;", 2, 15);
        Bench.due("fault(2)", b.x.fault(2), NONE);
        Bench.due("fault(-1)", b.x.fault(-1), NONE);
        b.tell(Bench.LAND, "");
        Bench.due("FAULT of the latest", b.x.fault(0), 0);
        Bench.due("its place", b.x.fault(1), NONE);
    }

    private static void faultsOfSyntax() {
        Bench b = new Bench();
        b.dueFault(Bench.LAND, "hours", 1, 5);
        b.dueFault(Bench.LAND, "hours  ", 1, 7);
        b.dueFault(Bench.LAND, "hours 6", 1, 7);
        b.dueFault(Bench.LAND, "hours 6 7;", 1, 8);
        b.dueFault(Bench.LAND, "hours ;", 1, 6);
        b.dueFault(Bench.LAND, "hours 100;", 1, 6);
        b.dueFault(Bench.LAND, "hours 006;", 1, 6);
        b.dueFault(Bench.LAND, "hoursx 6;", 1, 0);
        b.dueFault(Bench.LAND, "hour 6;", 1, 0);
        b.dueFault(Bench.LAND, "Hours 6;", 1, 0);
        b.dueFault(Bench.LAND, "hOurs 6;", 1, 0);
        b.dueFault(Bench.LAND, "hours\t6;", 1, 5);
        b.dueFault(Bench.LAND, "hours -6;", 1, 6);
        b.dueFault(Bench.LAND, ";", 1, 0);
        b.dueFault(Bench.LAND, "6;", 1, 0);
        b.dueFault(Bench.LAND, "hours 6;;", 1, 8);
        b.dueFault(Bench.LAND, "hours 6;#", 1, 8);
        b.dueFault(Bench.LAND, "night 0 0 0;", 1, 0);
        b.dueFault(Bench.LAND, "hours cross 1;", 1, 6);
        b.dueFault(Bench.LAND, "person 0 1;", 1, 10);
        b.dueFault(Bench.LAND, "likes 0 1 2;", 1, 11);
        b.dueFault(Bench.LAND, "bearer 0;", 1, 8);
        b.dueFault(Bench.LAND, "toll 0;", 1, 6);
        // a fault 1 goes ahead of all the others
        b.dueFault(Bench.LAND, "hours 3;cross 9;toll", 1, 20);
        b.dueFault(Bench.LAND, Bench.times(11, "person 0 0 0;") + "x", 1, 143);
        b.dueFault(Bench.TREATY, "night 0 0;", 1, 9);
        b.dueFault(Bench.TREATY, "hours 6;", 1, 0);
        b.dueFault(Bench.BOOK, "at 0 1 1;", 1, 7);
        b.dueFault(Bench.BOOK, "saw 0 0 dark;", 1, 0);
        b.dueFault(Bench.SIGHT, "saw 0 0;", 1, 7);
        b.dueFault(Bench.SIGHT, "saw 0 0 dim;", 1, 8);
        b.dueFault(Bench.SIGHT, "saw 0 0 dark light;", 1, 13);
        b.dueFault(Bench.SIGHT, "saw dark 0 0;", 1, 4);
        b.dueFault(Bench.GAME, "worth 1;", 1, 7);
        b.dueFault(Bench.GAME, "at 0 1;", 1, 0);
        // tokens go as long as they can, blanks need not be between
        b.dueFault(Bench.LAND, "hours6;\ncross02;person 1 2 3;likes0 0 0 1 ; ", 0, NONE);
        Bench.due("HOURS", b.x.land(0, 0), 6);
        Bench.due("CROSS", b.x.land(0, 1), 2);
        b.dueFault(Bench.SIGHT, "saw 0 1dark;saw 2 3light;", 0, NONE);
    }

    private static void faultsOfLands() {
        Bench b = new Bench();
        String[] lines = {"hours 3;", "hours 25;", "cross 4;", "crowd 10;", "walk 0;", "walk 5;"};
        for (String line : lines) {
            b.dueFault(Bench.LAND, line, 2, line.indexOf(' ') + 1);
        }
        b.dueFault(Bench.LAND, "person 2 0 0;", 2, 7);
        b.dueFault(Bench.LAND, "person 0 13 0;", 2, 9);
        b.dueFault(Bench.LAND, "person 0 12 13;", 2, 12);
        b.dueFault(Bench.LAND, "person 0 13 13;", 2, 9);
        b.dueFault(Bench.LAND, "person 0 0 0;likes 10 0 0 0;", 2, 19);
        b.dueFault(Bench.LAND, "person 0 0 0;likes 0 24 0 0;", 2, 21);
        b.dueFault(Bench.LAND, "person 0 0 0;likes 0 0 24 0;", 2, 23);
        b.dueFault(Bench.LAND, "person 0 0 0;likes 0 5 4 0;", 2, 23);
        b.dueFault(Bench.LAND, "person 0 0 0;likes 0 5 4 10;", 2, 23);
        b.dueFault(Bench.LAND, "person 0 0 0;likes 0 5 5 10;", 2, 25);
        b.dueFault(Bench.LAND, "bearer 0 11;", 2, 9);
        b.dueFault(Bench.LAND, "toll 24 0;", 2, 5);
        // the first by place, of all
        b.dueFault(Bench.LAND, "toll 24 0;hours 3;", 2, 5);
        String ten = Bench.times(10, "person 0 0 0;");
        b.dueFault(Bench.LAND, ten + "person 2 0 0;", 3, 130);
        b.dueFault(Bench.LAND, ten + "hours 3;person 0 0 0;", 2, 136);
        b.dueFault(Bench.LAND, "person 2 0 0;" + ten, 2, 7);
        b.dueFault(Bench.LAND, Bench.times(7, "bearer 0 0;"), 3, 66);
        // at the end: one who is not there, an hour that is not there
        b.dueFault(Bench.LAND, "likes 0 0 0 0;", 4, 14);
        b.dueFault(Bench.LAND, "likes 1 0 0 0;person 0 0 0; ", 4, 28);
        b.dueFault(Bench.LAND, "person 0 0 0;likes 0 0 12 1;", 4, 28);
        b.dueFault(Bench.LAND, "toll 12 1;", 4, 10);
        b.dueFault(Bench.LAND, "hours 24;toll 12 1;hours 12;", 4, 28);
        b.dueFault(Bench.LAND, "likes 0 0 0 0;hours 3;", 2, 20);
        b.dueFault(Bench.LAND, "toll 12 1;likes 0 0 12 1;hours 13;person 0 0 0;", 0, NONE);
        b.dueFault(Bench.LAND, ten + Bench.times(6, "bearer 99 10;"), 0, NONE);
    }

    private static void faultsOfTheOthers() {
        Bench b = new Bench();
        b.dueFault(Bench.TREATY, "night 3 0 0;", 2, 6);
        b.dueFault(Bench.TREATY, "night 0 24 23;", 2, 8);
        b.dueFault(Bench.TREATY, "night 0 0 24;", 2, 10);
        b.dueFault(Bench.TREATY, "night 0 5 4;", 2, 10);
        b.dueFault(Bench.TREATY, "night 2 0 23;night 0 5 5;", 0, NONE);
        b.dueFault(Bench.BOOK, "at 3 1;", 2, 3);
        b.dueFault(Bench.BOOK, "at 0 0;", 2, 5);
        b.dueFault(Bench.BOOK, "at 0 25;", 2, 5);
        b.dueFault(Bench.BOOK, Bench.times(31, "at 0 1;"), 3, 210);
        b.dueFault(Bench.BOOK, Bench.times(31, "at 0 24;"), 3, 240);
        b.dueFault(Bench.BOOK, Bench.times(4, "at 0 24;") + "at 0 1;", 4, 39);
        b.dueFault(Bench.BOOK, Bench.times(4, "at 0 24;"), 0, NONE);
        b.dueFault(Bench.BOOK, Bench.times(30, "at 0 1;"), 0, NONE);
        b.dueFault(Bench.SIGHT, "saw 10 0 dark;", 2, 4);
        b.dueFault(Bench.SIGHT, "saw 0 24 dark;", 2, 6);
        b.dueFault(Bench.SIGHT, Bench.times(21, "saw 0 0 dark;"), 3, 260);
        b.dueFault(Bench.SIGHT, Bench.times(20, "saw 9 23 dark;"), 0, NONE);
        b.dueFault(Bench.GAME, "worth 0 1;", 2, 6);
        b.dueFault(Bench.GAME, "worth 8 1;", 2, 6);
        b.dueFault(Bench.GAME, "worth 1 61;", 2, 8);
        b.dueFault(Bench.GAME, "worth 1 60;worth 7 0;", 0, NONE);
    }

    private static void count() {
        Bench b = new Bench();
        b.tell(Bench.BOOK, "");
        b.tell(Bench.GAME, "");
        b.tell(Bench.GAME, "");
        b.tell(Bench.GAME, 0, "");
        int[] due = {0, 0, 1, 0, 2};
        for (int sort = 0; sort < 5; sort++) {
            Bench.due("count " + sort, b.x.count(sort), due[sort]);
        }
        Bench.due("count(5)", b.x.count(5), -2);
        Bench.due("count(-1)", b.x.count(-1), -2);
    }

    private static void images() {
        Bench b = new Bench();
        b.tell(Bench.LAND, "hours 6;person 0 1 1;likes 0 0 5 3;bearer 4 5;toll 1 6;");
        b.tell(Bench.TREATY, "night 0 0 2;");
        b.tell(Bench.BOOK, "at 0 3;");
        b.tell(Bench.SIGHT, "saw 0 0 dark;");
        b.tell(Bench.GAME, "worth 7 7;");
        long ways = b.x.ways(0);
        int most = b.x.best(0, 1);
        b.tell(Bench.GAME, "worth 9 7;");
        b.put("hours 8;");
        Bench.due("image(1)", b.x.image(1), true);
        Bench.due("image(3)", b.x.image(3), false);
        Bench.due("image(-1)", b.x.image(-1), false);
        Bench.due("again(0) without one", b.x.again(0), false);
        Bench.due("again(3)", b.x.again(3), false);
        Bench.due("again(-1)", b.x.again(-1), false);
        Bench.due("the tape goes on", b.x.text(Bench.LAND, 0), 0);
        b.tell(Bench.LAND, "crowd 7;");
        b.tell(Bench.TREATY, 0, "");
        b.tell(Bench.BOOK, 0, "");
        b.tell(Bench.SIGHT, 0, "");
        b.tell(Bench.GAME, 0, "");
        b.x.image(2);
        for (int round = 0; round < 2; round++) {
            Bench.due("again(1)", b.x.again(1), true);
            Bench.due("FAULT again", b.x.fault(0), 2);
            Bench.due("its place again", b.x.fault(1), 6);
            Bench.due("lands again", b.x.count(0), 1);
            Bench.due("HOURS again", b.x.land(0, 0), 6);
            Bench.due("COST again", b.x.land(0, 50), 4);
            Bench.due("TIRED again", b.x.land(0, 60), 5);
            Bench.due("TOLL again", b.x.land(0, 11), 6);
            Bench.due("LIKE again", b.x.person(0, 0, 15), 3);
            Bench.due("NEED again", b.x.person(0, 0, 1), 1);
            Bench.due("WAYS again", b.x.ways(0), ways);
            Bench.due("MOST again", b.x.best(0, 1), most);
            Bench.due("night again", b.x.night(0, 2), 0);
            Bench.due("spell again", b.x.spell(0, 0, 1), 3);
            Bench.due("seen again", b.x.seen(0, 0, 2), 1);
            Bench.due("worth again", b.x.game(0, 7, 0), 7);
            Bench.due("the tape again", b.x.end(9), NONE);
            Bench.due("the tape again, whole", b.x.end(8), 8);
            Bench.due("the text of the tape again", b.x.text(Bench.LAND, NONE), 1);
            Bench.due("its HOURS", b.x.land(1, 0), 8);
            b.tell(Bench.LAND, 0, "hours 9;");
            Bench.due("HOURS told anew", b.x.land(0, 0), 9);
            Bench.due("MOST told anew", b.x.best(0, 1), 0);
        }
        Bench.due("again(2)", b.x.again(2), true);
        Bench.due("CROWD of image 2", b.x.land(1, 2), 7);
        Bench.due("FAULT of image 2", b.x.fault(0), 0);
        b.x.image(1);
        b.tell(Bench.LAND, 0, "");
        Bench.due("image(0)", b.x.image(0), true);
        Bench.due("again(1) of a later image", b.x.again(1), true);
        Bench.due("HOURS of a later image", b.x.land(0, 0), 8);
        Bench.due("again(0)", b.x.again(0), true);
        Bench.due("HOURS of image 0", b.x.land(0, 0), 12);
    }
}
