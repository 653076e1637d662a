import java.util.Arrays;
import java.util.function.Consumer;
import java.util.function.IntBinaryOperator;
import java.util.function.ToIntFunction;

/**
 * Calls that are refused: each with the exception or the answer that the document names, and that nothing else is
 * changed by it. They are made on an object on which there is something of each kind: tables, SHEETS, an image that
 * differs from them, bytes on the tape, a FAULT, STATUS.
 */
final class Refusal {
    // how many there are of each kind in the object of all refusals; the first number that there isn't
    static final int PEOPLE = 2;
    static final int SITTINGS = 3;
    static final int LAWS = 4;
    static final int LINES = 2;
    static final int SHEETS = 3;

    private static final String HOUSE = "person sight 10 joint 20 touch 100 leans 500 yes 30 wish 40;"
        + "person sight 20 joint 10 touch 50 leans 600;sitting far 30 strokes 2;"
        + "sitting far 60 late 100 turned stick strokes 4;sitting far 30 told;law odds two 1000;law wish;law spans;law odds spread 9;"
        + "line felt;line said;off 900<shown;";
    private static final int[] OF_A_SHEET = {0, 1, 20, 21, 22, 23, 30, 31, 34};
    private static final int FAULT = 3;
    private static final int TAPE = 20;
    private static final String SEEN = seen(hall());
    private static final String SEEN_OF_IMAGE = seen(restored(hall()));

    private Refusal() {
    }

    /** The object of all refusals; its tape is empty. */
    static RubberHall hall() {
        RubberHall x = Check.hall(HOUSE);
        x.sheet(1, 2);
        x.tell(0, 0, -2);
        x.tell(0, 20, 77);
        x.tell(0, 23, 5);
        x.image();
        x.tell(0, 0, 1);
        x.tell(0, 20, 1000);
        Check.sheets(x, "sheet 0 0 5 2 shown 10 start 20 slow 30 cold less 4;sheet 1 1 6 0 shown 950;");
        Check.sheets(x, "   x");
        return x;
    }

    private static RubberHall hallWithTape() {
        RubberHall x = hall();
        x.feed(0x6c696e65, 0x20736169, 0x643b2020, 0x20202020, 0x20202020);
        return x;
    }

    private static RubberHall restored(RubberHall x) {
        x.restore();
        return x;
    }

    /** All that can be asked of the tables and the SHEETS. */
    static String seen(RubberHall x) {
        int[] many = new int[7];
        for (int what = 0; what < many.length; what++) {
            many[what] = x.count(what);
        }
        StringBuilder s = new StringBuilder(Arrays.toString(many));
        add(s, many[0], 7, x::person);
        add(s, many[1], 6, x::sitting);
        add(s, many[2], 5, x::law);
        add(s, many[3], 1, (i, what) -> x.isSaid(i) ? 1 : 0);
        add(s, many[5], OF_A_SHEET.length, (i, what) -> x.value(i, OF_A_SHEET[what]));
        return s.toString();
    }

    private static void add(StringBuilder s, int many, int wide, IntBinaryOperator asked) {
        for (int i = 0; i < many; i++) {
            for (int what = 0; what < wide; what++) {
                s.append(' ').append(asked.applyAsInt(i, what));
            }
        }
    }

    private static void nothingElseChanged(RubberHall x, int tape, int fault, int... status) {
        Check.due("the tape then", x.count(7), tape);
        Check.due("the FAULT then", x.fault(), fault);
        for (int i = 0; i < 3; i++) {
            Check.due("STATUS " + i + " then", x.count(8 + i), status[i]);
        }
        Check.same("what is there then", seen(x), SEEN);
        Check.due("the image is there then", x.restore(), true);
        Check.same("what is in the image then", seen(x), SEEN_OF_IMAGE);
    }

    /** NoSuchElementException, and nothing changes. */
    static void none(String name, Consumer<RubberHall> call) {
        Check.edge(name, () -> {
            RubberHall x = hallWithTape();
            Check.none("it", () -> call.accept(x));
            nothingElseChanged(x, TAPE, FAULT, 1, 1, 0);
        });
    }

    /** IllegalArgumentException, and nothing changes. */
    static void illegal(String name, Consumer<RubberHall> call) {
        Check.edge(name, () -> {
            RubberHall x = hallWithTape();
            Check.illegal("it", () -> call.accept(x));
            nothingElseChanged(x, TAPE, FAULT, 1, 1, 0);
        });
    }

    /** An answer that refuses (a boolean counts 1 or 0), and nothing changes but STATUS. */
    static void answers(String name, int answer, int status1, ToIntFunction<RubberHall> call) {
        Check.edge(name, () -> {
            RubberHall x = hallWithTape();
            Check.due("it", call.applyAsInt(x), answer);
            nothingElseChanged(x, TAPE, FAULT, 1, status1, 0);
        });
    }

    /** A TEXT of a HOUSE with a FAULT: the tape is empty, the FAULT is told and counted, all else stays. */
    static void house(String text, int fault, int place) {
        RubberHall x = hall();
        Check.due("house of " + text, Check.house(x, text), fault);
        nothingElseChanged(x, 0, place, 2, 1, 0);
    }

    /** A TEXT of SHEETS with a FAULT: likewise. */
    static void sheets(String text, int fault, int place) {
        RubberHall x = hall();
        Check.due("sheets of " + text, Check.sheets(x, text), -1 - fault);
        nothingElseChanged(x, 0, place, 2, 1, 0);
    }
}
