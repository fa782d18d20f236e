import java.util.function.IntToLongFunction;

/** One object under test, texts told to it as a tape, and the count of answers that were not as due. */
final class Bench {
    static final int LAND = 0;
    static final int TREATY = 1;
    static final int BOOK = 2;
    static final int SIGHT = 3;
    static final int GAME = 4;

    static final String SOME_LAND = "hours 6;cross 1;crowd 2;walk 1;person 0 2 2;person 1 2 3;likes 0 0 2 3;"
            + "likes 0 3 3 1;likes 1 3 5 4;likes 1 0 0 2;bearer 5 3;bearer 8 1;toll 0 7;toll 3 2;";
    /** In that land its row is 0 0 2 1 1 2. */
    static final String SOME_TREATY = "night 0 0 1;night 1 3 4;";

    private static int asked;
    private static int wrong;

    NightBridge x = new NightBridge();

    static void due(String what, long got, long want) {
        asked++;
        if (got != want) {
            wrong++;
            System.out.println(what + " answered " + got + ", due is " + want);
        }
    }

    static void due(String what, boolean got, boolean want) {
        due(what, got ? 1 : 0, want ? 1 : 0);
    }

    /** Numbers from least on have these answers, one behind the other; on either side of them all are refused. */
    static void dueFrom(String what, IntToLongFunction call, int least, long refused, long... due) {
        for (int i = 0; i < due.length; i++) {
            due(what + " of " + (least + i), call.applyAsLong(least + i), due[i]);
        }
        for (int number : new int[] {least - 1, least + due.length, Integer.MIN_VALUE, Integer.MAX_VALUE}) {
            due(what + " of " + number, call.applyAsLong(number), refused);
        }
    }

    /** Of all numbers those of the pairs (number, answer) have an answer; all others are refused. */
    static void dueOnly(String what, IntToLongFunction call, long refused, int[]... pairs) {
        int[] far = {Integer.MIN_VALUE, -1 << 30, -1 << 16, 1 << 16, 1 << 30, Integer.MAX_VALUE - 1, Integer.MAX_VALUE};
        for (int number : far) {
            due(what + " of " + number, call.applyAsLong(number), refused);
        }
        for (int number = -130; number <= 1300; number++) {
            long due = refused;
            for (int[] pair : pairs) {
                due = pair[0] == number ? pair[1] : due;
            }
            due(what + " of " + number, call.applyAsLong(number), due);
        }
    }

    /** The end of a test's main. */
    static void close(String test) {
        System.out.println(test + ": " + asked + " answers, " + wrong + " not as due");
        if (wrong != 0 || asked == 0) {
            System.exit(1);
        }
    }

    /** The tape has just this text. */
    void put(String text) {
        x.end(0);
        for (int i = 0; i < text.length(); i += 20) {
            x.feed(four(text, i), four(text, i + 4), four(text, i + 8), four(text, i + 12), four(text, i + 16));
        }
        due("end of " + text, x.end(text.length()), text.length());
    }

    private static int four(String text, int at) {
        int number = 0;
        for (int i = at; i < at + 4; i++) {
            number = number << 8 | (i < text.length() ? text.charAt(i) & 255 : ' ');
        }
        return number;
    }

    int tell(int sort, String text) {
        return tell(sort, NightBridge.NONE, text);
    }

    int tell(int sort, int at, String text) {
        put(text);
        return x.text(sort, at);
    }

    /** A text of a sort has that fault at that place, and nothing is told by it. */
    void dueFault(int sort, String text, int fault, int place) {
        int before = x.count(sort);
        int got = tell(sort, text);
        due("text of " + text, got, fault == 0 ? before : -1);
        due("fault(0) of " + text, x.fault(0), fault);
        due("fault(1) of " + text, x.fault(1), place);
        due("count after " + text, x.count(sort), fault == 0 ? before + 1 : before);
        due("tape after " + text, x.end(1), -1);
    }

    static String times(int n, String text) {
        return text.repeat(n);
    }
}
