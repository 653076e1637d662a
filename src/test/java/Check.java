import java.nio.charset.StandardCharsets;
import java.util.Arrays;

/** What the tests share: answers that are due, exceptions that are due, and texts on the tape. */
final class Check {
    private static int done = 0;
    private static int wrong = 0;

    private Check() {
    }

    static void due(String call, long got, long want) {
        done++;
        if (got != want) {
            wrong++;
            System.out.println(call + " answered " + got + ", due is " + want);
        }
    }

    static void due(String call, boolean got, boolean want) {
        due(call, got ? 1 : 0, want ? 1 : 0);
    }

    static void none(String call, Runnable run) {
        refused(call, java.util.NoSuchElementException.class, run);
    }

    static void illegal(String call, Runnable run) {
        refused(call, IllegalArgumentException.class, run);
    }

    private static void refused(String call, Class<?> due, Runnable run) {
        done++;
        try {
            run.run();
            wrong++;
            System.out.println(call + " threw nothing, due is " + due.getName());
        } catch (RuntimeException e) {
            if (e.getClass() != due) {
                wrong++;
                System.out.println(call + " threw " + e + ", due is " + due.getName());
            }
        }
    }

    static int feed(RubberHall x, byte[] text) {
        byte[] padded = Arrays.copyOf(text, (text.length + 19) / 20 * 20);
        Arrays.fill(padded, text.length, padded.length, (byte) 32);
        for (int i = 0; i < padded.length; i += 20) {
            x.feed(word(padded, i), word(padded, i + 4), word(padded, i + 8), word(padded, i + 12), word(padded, i + 16));
        }
        return text.length;
    }

    static int feed(RubberHall x, String text) {
        return feed(x, text.getBytes(StandardCharsets.ISO_8859_1));
    }

    static int word(byte[] bytes, int from) {
        int word = 0;
        for (int i = from; i < from + 4; i++) {
            word = word << 8 | bytes[i] & 255;
        }
        return word;
    }

    static int house(RubberHall x, String text) {
        return x.house(feed(x, text));
    }

    static int sheets(RubberHall x, String text) {
        return x.sheets(feed(x, text));
    }

    /** A new object with this HOUSE. */
    static RubberHall hall(String text) {
        RubberHall x = new RubberHall();
        due("house of " + text, house(x, text), 0);
        return x;
    }

    static void end(String test) {
        System.out.println(test + ": " + done + " answers, " + wrong + " not as due");
        if (wrong != 0 || done == 0) {
            System.exit(1);
        }
    }
}
