import java.nio.charset.StandardCharsets;
import java.util.Arrays;
import java.util.LinkedHashSet;
import java.util.Set;

/** What the tests share: answers that are due, exceptions that are due, and texts on the tape. */
final class Check {
    private static final Set<String> EDGES = new LinkedHashSet<>();
    private static int done = 0;
    private static int wrong = 0;
    private static String now = "";

    private Check() {
    }

    /** A test of its own of one case that the document names; its name begins with the promise or the Term. */
    static void edge(String name, Runnable test) {
        now = name + ": ";
        int before = done;
        due("no other test has this name", EDGES.add(name), true);
        if (System.getProperty("names") != null) {
            System.out.println(name);
        }
        try {
            test.run();
        } catch (RuntimeException e) {
            fails("threw " + e);
        }
        due("something is asked", done > before + 1, true);
        now = "";
    }

    static Set<String> edges() {
        return EDGES;
    }

    private static void fails(String how) {
        wrong++;
        System.out.println(now + how);
    }

    static void due(String call, long got, long want) {
        done++;
        if (got != want) {
            fails(call + " answered " + got + ", due is " + want);
        }
    }

    static void same(String call, String got, String want) {
        done++;
        if (!got.equals(want)) {
            fails(call + " answered " + got + ", due is " + want);
        }
    }

    static void due(String call, boolean got, boolean want) {
        due(call, got ? 1 : 0, want ? 1 : 0);
    }

    static void none(String call, Runnable run) {
        refused(call, java.util.NoSuchElementException.class, run);
    }

    static void illegal(String call, Runnable run) {
        refused(call, IllegalArgumentException.class, run);
    }

    private static void refused(String call, Class<?> due, Runnable run) {
        done++;
        try {
            run.run();
        } catch (RuntimeException e) {
            if (e.getClass() != due) {
                fails(call + " threw " + e + ", due is " + due.getName());
            }
            return;
        }
        fails(call + " threw nothing, due is " + due.getName());
    }

    static int feed(RubberHall x, byte[] text) {
        byte[] padded = Arrays.copyOf(text, (text.length + 19) / 20 * 20);
        Arrays.fill(padded, text.length, padded.length, (byte) 32);
        for (int i = 0; i < padded.length; i += 20) {
            x.feed(word(padded, i), word(padded, i + 4), word(padded, i + 8), word(padded, i + 12), word(padded, i + 16));
        }
        return text.length;
    }

    static int feed(RubberHall x, String text) {
        return feed(x, text.getBytes(StandardCharsets.ISO_8859_1));
    }

    static int word(byte[] bytes, int from) {
        int word = 0;
        for (int i = from; i < from + 4; i++) {
            word = word << 8 | bytes[i] & 255;
        }
        return word;
    }

    static int house(RubberHall x, String text) {
        return x.house(feed(x, text));
    }

    static int sheets(RubberHall x, String text) {
        return x.sheets(feed(x, text));
    }

    /** A new object with this HOUSE. */
    static RubberHall hall(String text) {
        RubberHall x = new RubberHall();
        due("house of " + text, house(x, text), 0);
        return x;
    }

    static void end(String test) {
        String edges = EDGES.isEmpty() ? "" : EDGES.size() + " cases, ";
        System.out.println(test + ": " + edges + done + " answers, " + wrong + " not as due");
        if (wrong != 0 || done == 0) {
            System.exit(1);
        }
    }
}
