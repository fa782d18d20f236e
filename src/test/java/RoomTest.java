import java.io.IOException;
import java.lang.management.ManagementFactory;
import java.nio.file.Files;
import java.nio.file.Path;

/** Calls of any arguments never throw, the calls of a run stay in their room, and the source keeps to the language. */
final class RoomTest {
    private static final int[] ODD = {
        Integer.MIN_VALUE, -1000, -3, -2, -1, 0, 1, 2, 3, 4, 5, 6, 7, 8, 9, 10, 11, 12, 13, 15, 23, 24, 25, 33, 34, 50,
        56, 60, 61, 66, 99, 100, 101, 103, 104, 124, 512, 1123, 1124, 1 << 20, Integer.MAX_VALUE};

    public static void main(String[] args) throws IOException {
        anyArguments();
        room();
        source(args.length > 0 ? args[0] : "src/main/java/NightBridge.java");
        Bench.close("RoomTest");
    }

    private static int odd(Oracle.Dice dice) {
        return ODD[dice.between(0, ODD.length - 1)];
    }

    private static long call(NightBridge x, int which, Oracle.Dice d) {
        switch (which) {
            case 0: return x.feed(odd(d), odd(d), odd(d), odd(d), odd(d));
            case 1: return x.end(odd(d));
            case 2: return x.text(odd(d), odd(d));
            case 3: return x.fault(odd(d));
            case 4: return x.land(odd(d), odd(d));
            case 5: return x.person(odd(d), odd(d), odd(d));
            case 6: return x.night(odd(d), odd(d));
            case 7: return x.row(d.between(0, 2), d.between(0, 2), odd(d));
            case 8: return x.spell(d.between(0, 2), odd(d), odd(d));
            case 9: return x.days(d.between(0, 2), d.between(0, 2), odd(d));
            case 10: return x.breach(d.between(0, 2), d.between(0, 2), d.between(0, 2), odd(d));
            case 11: return x.ways(odd(d));
            case 12: return x.best(d.between(0, 2), odd(d));
            case 13: return x.worth(d.between(0, 2), odd(d), odd(d));
            case 14: return x.cut(d.between(0, 2), odd(d), odd(d));
            case 15: return x.envy(d.between(0, 2), odd(d), odd(d));
            case 16: return x.gain(d.between(0, 2), d.between(0, 2), odd(d), odd(d));
            case 17: return x.moves(d.between(0, 2), d.between(0, 2), odd(d));
            case 18: return x.teams(d.between(0, 2), odd(d), odd(d));
            case 19: return x.hire(d.between(0, 2), odd(d), true);
            case 20: return x.seen(d.between(0, 2), odd(d), odd(d));
            case 21: return x.stolen(d.between(0, 2), d.between(0, 2), d.between(0, 2), odd(d));
            case 22: return x.game(d.between(0, 2), odd(d), odd(d));
            case 23: return x.errand(d.between(0, 2), d.between(0, 2), odd(d), odd(d), odd(d), false);
            case 24: return x.meet(d.between(0, 2), d.between(0, 2), odd(d), odd(d), odd(d));
            case 25: return x.drawn(d.between(0, 2), d.between(0, 2), odd(d), odd(d), odd(d));
            case 26: return x.count(odd(d));
            case 27: return x.image(odd(d)) ? 1 : 0;
            default: return x.again(odd(d)) ? 1 : 0;
        }
    }

    private static void tellSomething(Bench b, Oracle.Dice dice) {
        Oracle o = Oracle.random(dice, 4, 24);
        b.tell(Bench.LAND, dice.between(-1, 1), o.text());
        b.tell(Bench.TREATY, dice.between(-1, 1), Oracle.rowText(dice.row(o.hours)));
        StringBuilder book = new StringBuilder();
        StringBuilder sight = new StringBuilder();
        for (int i = 0; i < 20; i++) {
            book.append("at ").append(dice.between(0, 2)).append(' ').append(dice.between(1, 4)).append(';');
            sight.append("saw ").append(dice.between(0, 9)).append(' ').append(dice.between(0, 23)).append(" dark;");
        }
        b.tell(Bench.BOOK, dice.between(-1, 1), book.toString());
        b.tell(Bench.SIGHT, dice.between(-1, 1), sight.toString());
        b.tell(Bench.GAME, dice.between(-1, 1), "worth 7 50;worth 3 9;");
    }

    private static void anyArguments() {
        Oracle.Dice dice = new Oracle.Dice(43);
        long sum = 0;
        int thrown = 0;
        for (int run = 0; run < 60; run++) {
            Bench b = new Bench();
            for (int i = 0; i < 500; i++) {
                if (i % 50 == 49) {
                    tellSomething(b, dice);
                }
                int which = dice.between(0, 28);
                try {
                    sum += call(b.x, which, dice);
                } catch (RuntimeException e) {
                    thrown++;
                    System.out.println("call " + which + " threw " + e);
                }
            }
        }
        // texts of any bytes that the grammar knows, in any order
        String[] parts = {"hours", "person", "likes", "bearer", "toll", "night", "at", "saw", "worth", "dark", ";", "0",
            "1", "5", "12", "24", "99", "123", " ", "\n", "#", "cross", "light"};
        for (int run = 0; run < 3000; run++) {
            StringBuilder s = new StringBuilder();
            for (int i = dice.between(0, 12); i > 0; i--) {
                s.append(parts[dice.between(0, parts.length - 1)]).append(dice.between(0, 1) == 0 ? " " : "");
            }
            Bench b = new Bench();
            try {
                sum += b.tell(dice.between(0, 4), s.toString());
            } catch (RuntimeException e) {
                thrown++;
                System.out.println("text " + s + " threw " + e);
            }
        }
        Bench.due("calls that threw (" + sum + ")", thrown, 0);
    }

    /** By the bytes that the machine hands out: a room of 7.3 million fields is 8 bytes each at most. */
    private static void room() {
        com.sun.management.ThreadMXBean bean = (com.sun.management.ThreadMXBean) ManagementFactory.getThreadMXBean();
        Bench b = new Bench();
        Oracle.Dice dice = new Oracle.Dice(47);
        tellSomething(b, dice);
        tellSomething(b, dice);
        int[] all = new int[29];
        for (int which = 0; which < 29; which++) {
            call(b.x, which, dice);
        }
        long self = bean.getThreadAllocatedBytes(Thread.currentThread().getId());
        self = bean.getThreadAllocatedBytes(Thread.currentThread().getId()) - self;
        for (int which = 0; which < 29; which++) {
            long before = bean.getThreadAllocatedBytes(Thread.currentThread().getId());
            for (int i = 0; i < 512; i++) {
                call(b.x, which, dice);
            }
            long bytes = bean.getThreadAllocatedBytes(Thread.currentThread().getId()) - before - self;
            all[which] = (int) bytes;
            // three images are made once and used again
            Bench.due("bytes of 512 calls " + which + ": " + bytes, bytes <= (which == 27 ? 60000 : 512), true);
        }
        long before = bean.getThreadAllocatedBytes(Thread.currentThread().getId());
        NightBridge made = new NightBridge();
        long bytes = bean.getThreadAllocatedBytes(Thread.currentThread().getId()) - before - self;
        Bench.due("bytes of a new object: " + bytes, bytes + made.count(0) <= 57000, true);
    }

    private static void source(String file) throws IOException {
        String[] words = {"throw", "try", "catch", "synchronized", "assert", "instanceof", "->", "::", "Exact",
            "import java.util.function", "volatile", "System.out", "currentTimeMillis", "nanoTime", "Random"};
        String source = Files.readString(Path.of(file));
        String code = source.replaceAll("/\\*(?s:.*?)\\*/", "").replaceAll("//[^\n]*", "");
        for (String word : words) {
            Bench.due("the source has " + word, code.contains(word), false);
        }
        String[] face = {"feed", "end", "text", "fault", "land", "person", "night", "row", "spell", "days", "breach", "ways",
            "best", "worth", "cut", "envy", "gain", "moves", "teams", "hire", "seen", "stolen", "game", "errand", "meet",
            "drawn", "count", "image", "again"};
        for (java.lang.reflect.Method m : NightBridge.class.getDeclaredMethods()) {
            boolean isPublic = java.lang.reflect.Modifier.isPublic(m.getModifiers());
            boolean isPrivate = java.lang.reflect.Modifier.isPrivate(m.getModifiers());
            boolean inFace = java.util.Arrays.asList(face).contains(m.getName());
            Bench.due("method " + m.getName(), isPublic == inFace && isPrivate == !inFace, true);
        }
        Bench.due("methods of the face", NightBridge.class.getMethods().length - Object.class.getMethods().length, face.length);
        Bench.due("public fields", NightBridge.class.getFields().length, 1);
    }
}
