import java.util.ArrayList;
import java.util.List;

/** Promises 1, 29 and 30 at their edges: an image has all that is told, each for itself, and stays as it is. */
final class ImageEdgesTest {
    private static final int NONE = NightBridge.NONE;
    private static final String[] FIRST = {"hours 6;cross 2;crowd 3;walk 4;person 1 2 3;person 0 4 5;likes 1 0 5 6;bearer 7 8;toll 5 9;",
        "night 0 0 3;night 1 6 23;", "at 0 5;at 2 7;", "saw 1 3 dark;", "worth 1 2;worth 7 9;"};
    private static final String[] SECOND = {"hours 7;cross 0;person 0 1 1;likes 0 6 6 1;bearer 1 2;bearer 3 4;toll 6 8;",
        "night 1 0 2;", "at 1 1;", "saw 0 2 light;saw 0 3 light;", "worth 2 5;worth 3 6;"};

    public static void main(String[] args) {
        newObject();
        everyImage();
        eachSort();
        tapeAndFault();
        ofNothing();
        refused();
        theBestAgain();
        Bench.close("ImageEdgesTest");
    }

    /** All that is told, as the calls answer it, but for the tape. */
    private static List<Integer> all(NightBridge x) {
        List<Integer> seen = new ArrayList<>();
        for (int sort = 0; sort < 5; sort++) {
            seen.add(x.count(sort));
        }
        seen.add(x.fault(0));
        seen.add(x.fault(1));
        for (int i = 0; i < 2; i++) {
            for (int what : new int[] {0, 1, 2, 3, 4, 5, 10, 15, 16, 50, 51, 60, 61}) {
                seen.add(x.land(i, what));
            }
            for (int what : new int[] {0, 1, 2, 10, 15, 16}) {
                seen.add(x.person(i, 0, what));
                seen.add(x.person(i, 1, what));
            }
            for (int h = 0; h < 24; h += 3) {
                seen.add(x.night(i, h));
            }
            for (int what = 0; what < 2; what++) {
                seen.add(x.spell(i, NONE, what));
                seen.add(x.spell(i, 0, what));
                seen.add(x.spell(i, 1, what));
            }
            seen.add(x.days(i, i, 2));
            for (int what = 0; what < 3; what++) {
                seen.add(x.seen(i, 0, what));
                seen.add(x.seen(i, 1, what));
            }
            for (int set = 1; set < 8; set++) {
                seen.add(x.game(i, set, 0));
            }
        }
        return seen;
    }

    private static void dueAll(String what, Bench b, List<Integer> due) {
        List<Integer> got = all(b.x);
        Bench.due(what + ": " + got + ", due is " + due, got.equals(due), true);
    }

    private static Bench told(String[] texts) {
        Bench b = new Bench();
        for (int sort = 0; sort < 5; sort++) {
            Bench.due(texts[sort], b.tell(sort, texts[sort]), 0);
        }
        return b;
    }

    private static void newObject() {
        Bench b = new Bench();
        Bench.dueFrom("count", b.x::count, 0, -2, 0, 0, 0, 0, 0);
        Bench.dueFrom("fault", b.x::fault, 0, NONE, 0, NONE);
        Bench.dueFrom("end", b.x::end, 0, NONE, 0);
        Bench.dueFrom("again", k -> b.x.again(k) ? 1 : 0, 0, 0);
        // one object knows nothing of another
        Bench other = told(FIRST);
        other.x.image(0);
        dueAll("a new object beside another", b, all(new NightBridge()));
        Bench.due("another's image", b.x.again(0), false);
    }

    /** Three images of three times, each called again in any order, as often as one likes. */
    private static void everyImage() {
        Bench b = told(FIRST);
        List<List<Integer>> due = new ArrayList<>();
        for (int k = 0; k < 3; k++) {
            if (k > 0) {
                b.tell(k - 1, SECOND[k - 1]);
                b.tell(k + 2, 0, SECOND[k + 2]);
            }
            due.add(all(b.x));
            Bench.due("image(" + k + ")", b.x.image(k), true);
            dueAll("an image changes nothing", b, due.get(k));
        }
        for (int k : new int[] {0, 2, 1, 0, 0, 2, 2, 1, 0}) {
            Bench.due("again(" + k + ")", b.x.again(k), true);
            dueAll("as image " + k, b, due.get(k));
            for (int sort = 0; sort < 5; sort++) {
                b.tell(sort, 0, SECOND[sort]);
                b.tell(sort, SECOND[sort]);
            }
        }
        // a later image is in the place of the one before, and of that one alone
        b.x.again(0);
        b.x.image(2);
        b.x.again(1);
        dueAll("image 1 behind a later image 2", b, due.get(1));
        b.x.again(2);
        dueAll("the later image 2", b, due.get(0));
        b.tell(Bench.GAME, 0, "");
        b.x.again(0);
        dueAll("image 0 behind it", b, due.get(0));
    }

    /** What one sort has, told anew or told further, is as it was. */
    private static void eachSort() {
        for (int sort = 0; sort < 5; sort++) {
            for (int k = 0; k < 3; k++) {
                Bench b = told(FIRST);
                List<Integer> one = all(b.x);
                b.x.image(k);
                b.tell(sort, 0, SECOND[sort]);
                Bench.due("told anew, sort " + sort, all(b.x).equals(one), false);
                b.x.again(k);
                dueAll("sort " + sort + " again", b, one);
                Bench.due("told further, sort " + sort, b.tell(sort, SECOND[sort]), 1);
                List<Integer> two = all(b.x);
                b.x.image((k + 1) % 3);
                b.tell(sort, 1, "");
                b.x.again(k);
                dueAll("one of sort " + sort + " again", b, one);
                Bench.due("there is no second one, sort " + sort, b.tell(sort, 1, ""), -2);
                b.x.again((k + 1) % 3);
                dueAll("two of sort " + sort + " again", b, two);
            }
        }
    }

    private static void tapeAndFault() {
        for (int length : new int[] {0, 1, 8, 599, 600}) {
            Bench b = new Bench();
            b.tell(Bench.LAND, "hours 3;");
            b.put(length < 8 ? Bench.times(length, " ") : "hours 9;" + Bench.times(length - 8, "\n"));
            b.x.image(0);
            Bench.due("the tape is as it was", b.x.text(Bench.LAND, NONE), 0);
            b.tell(Bench.LAND, "hours 7;;");
            b.put("#");
            Bench.due("again(0)", b.x.again(0), true);
            Bench.due("FAULT again", b.x.fault(0), 2);
            Bench.due("its place again", b.x.fault(1), 6);
            Bench.due("no more of the tape", b.x.end(length + 1), NONE);
            Bench.due("all of the tape", b.x.end(length), length);
            Bench.due("LANDS again", b.x.count(Bench.LAND), 0);
            Bench.due("the tape's text", b.x.text(Bench.LAND, NONE), 0);
            Bench.due("its HOURS", b.x.land(0, 0), length < 8 ? 12 : 9);
            // what was fed behind it and then cut off does not come into the image
            b.x.again(0);
            b.x.end(0);
            b.x.again(0);
            Bench.due("all of the tape once more", b.x.end(length), length);
        }
    }

    /** An image of nothing is one. */
    private static void ofNothing() {
        Bench b = new Bench();
        List<Integer> nothing = all(b.x);
        Bench.due("image(2) of nothing", b.x.image(2), true);
        for (int sort = 0; sort < 5; sort++) {
            b.tell(sort, SECOND[sort]);
        }
        b.put("#");
        Bench.due("again(1) without one", b.x.again(1), false);
        Bench.due("again(0) without one", b.x.again(0), false);
        Bench.due("again(2)", b.x.again(2), true);
        dueAll("nothing again", b, nothing);
        Bench.due("no tape", b.x.end(1), NONE);
        for (int sort = 0; sort < 5; sort++) {
            Bench.due("the first of sort " + sort, b.tell(sort, ""), 0);
        }
    }

    private static void refused() {
        int[] others = {-1, 3, Integer.MIN_VALUE, Integer.MAX_VALUE};
        Bench b = told(FIRST);
        b.put("#");
        List<Integer> due = all(b.x);
        for (int k : others) {
            Bench.due("image(" + k + ")", b.x.image(k), false);
            Bench.due("again(" + k + ")", b.x.again(k), false);
        }
        for (int k = 0; k < 3; k++) {
            Bench.due("again(" + k + ") without one", b.x.again(k), false);
        }
        dueAll("nothing has changed", b, due);
        Bench.due("the tape has not changed", b.x.end(2), NONE);
        Bench.due("nor is it gone", b.x.end(1), 1);
        b.x.image(1);
        b.tell(Bench.GAME, "");
        Bench.due("again(0) beside image 1", b.x.again(0), false);
        Bench.due("again(2) beside image 1", b.x.again(2), false);
        Bench.due("GAMES then", b.x.count(Bench.GAME), 2);
        for (int k : others) {
            Bench.due("again(" + k + ") with an image", b.x.again(k), false);
        }
    }

    /** The best row, asked ahead of an image and behind it, is the land's that is told then. */
    private static void theBestAgain() {
        Bench b = new Bench();
        b.tell(Bench.LAND, "hours 4;person 0 1 1;likes 0 1 1 5;toll 3 4;");
        b.x.image(0);
        Bench.due("MOST", b.x.best(0, 1), 5);
        b.x.image(1);
        b.tell(Bench.LAND, 0, "hours 4;person 0 1 1;likes 0 2 2 7;toll 2 8;bearer 1 1;");
        Bench.due("CHEAP", b.x.best(0, 2), 10);
        b.x.image(2);
        int[] most = {5, 5, 7};
        int[] cheap = {4, 4, 10};
        int[] night = {0, 0, 2};
        for (int k : new int[] {0, 2, 1, 2, 0, 1}) {
            b.x.again(k);
            Bench.due("MOST of image " + k, b.x.best(0, 1), most[k]);
            Bench.due("CHEAP of image " + k, b.x.best(0, 2), cheap[k]);
            Bench.due("the night at 1 of image " + k, b.x.best(0, 11), night[k]);
            b.tell(Bench.LAND, 0, "hours 4;person 0 4 1;");
            Bench.due("no MOST then", b.x.best(0, 1), NONE);
            Bench.due("no row then", b.x.best(0, 11), NONE);
        }
    }
}
