/** Promises 15 to 18, 33 and 34: SHEETS told and DRAWN, and their image. */
public final class SheetsTest {
    private static final String HOUSE = "person sight 10 joint 20 touch 100 leans 500;"
        + "person sight 10 joint 20 touch 100 leans 500;sitting far 30 strokes 2;sitting far 30 strokes 2;"
        + "law odds two 1000;law spans;line felt;line said;";

    private static void sheets() {
        RubberHall x = Check.hall(HOUSE);
        for (int i = 0; i < 60; i++) {
            Check.due("sheet " + i, x.sheet(i % 2, 1), i);
        }
        Check.due("its person", x.value(59, 30), 1);
        Check.due("its sitting", x.value(59, 31), 1);
        Check.due("there are 60", x.sheet(0, 0), RubberHall.NONE);
        Check.due("there are 60 still", x.sheet(1, 1), RubberHall.NONE);
        Check.due("status 2", x.count(10), 2);
        Check.due("count", x.count(5), 60);
        Check.none("no person, though there are 60", () -> x.sheet(2, 0));
        Check.none("no sitting, though there are 60", () -> x.sheet(0, 2));
        Check.none("person -1", () -> x.sheet(-1, 0));
        Check.none("sitting -1", () -> x.sheet(0, -1));
        Check.due("status 2 stays", x.count(10), 2);
    }

    private static void bounds(RubberHall x, int what, int least, int most) {
        Check.due("tell " + what + " the least", x.tell(1, what, least), true);
        Check.due("value " + what, x.value(1, what), least);
        Check.due("tell " + what + " the most", x.tell(1, what, most), true);
        Check.due("value " + what, x.value(1, what), most);
        int refused = x.count(9);
        Check.due("tell " + what + " below", x.tell(1, what, least - 1), false);
        Check.due("tell " + what + " above", x.tell(1, what, most + 1), false);
        Check.due("tell " + what + " MIN", x.tell(1, what, Integer.MIN_VALUE), false);
        Check.due("status 1", x.count(9), refused + 3);
        Check.due("value " + what + " stays", x.value(1, what), most);
        Check.due("the others are not told", x.value(0, what), what == 23 ? 100 : 0);
    }

    private static void tell() {
        RubberHall x = Check.hall(HOUSE);
        x.sheet(0, 0);
        x.sheet(0, 0);
        bounds(x, 0, -3, 3);
        bounds(x, 1, -3, 3);
        bounds(x, 20, -999, 999);
        bounds(x, 21, 0, 100);
        bounds(x, 22, 0, 601);
        bounds(x, 23, -50, 50);
        Check.due("felt", x.value(1, 32), 3);
        Check.due("said", x.value(1, 33), 3);
        for (int what : new int[] {-1, 2, 11, 12, 15, 16, 17, 19, 24, 30, 31, 32, Integer.MIN_VALUE}) {
            Check.none("tell of " + what, () -> x.tell(0, what, 0));
            Check.none("tell of " + what + " beyond", () -> x.tell(0, what, 5000));
        }
        for (int what : new int[] {-1, 2, 11, 12, 19, 24, 29, 35, Integer.MAX_VALUE}) {
            Check.none("value of " + what, () -> x.value(0, what));
        }
        for (int sheet : new int[] {-1, 2, 60, Integer.MAX_VALUE}) {
            Check.none("tell of sheet " + sheet, () -> x.tell(sheet, 0, 9));
            Check.none("value of sheet " + sheet, () -> x.value(sheet, 0));
        }
        Check.due("status 1 is of numbers alone", x.count(9), 18);
    }

    private static void sheetIs(RubberHall x, int sheet, int... due) {
        int[] whats = {0, 1, 20, 21, 22, 23, 30, 31};
        for (int i = 0; i < whats.length; i++) {
            Check.due("value(" + sheet + ", " + whats[i] + ") of what was drawn", x.value(sheet, whats[i]), due[i]);
        }
    }

    private static void drawn() {
        RubberHall x = Check.hall(HOUSE);
        x.sheet(1, 1);
        x.tell(0, 23, 5);
        Check.due("drawn", x.drawn(0, 5), 4);
        Check.due("sheets", x.count(5), 4);
        // the draws of 3, 3, 41, 21, 11 by the seed 5 are 1 0 38 20 7, 2 2 10 1 2, 0 2 26 17 10
        sheetIs(x, 0, -2, -3, 25, 43, 5, 100, 0, 0);
        sheetIs(x, 1, -1, -2, -3, 24, 0, 100, 0, 1);
        sheetIs(x, 2, -3, -2, 13, 40, 8, 100, 1, 0);
        // by 0: 0 0 25 4 0, by -7: 1 1 5 13 6
        Check.due("drawn by spans", x.drawn(1, 0), 4);
        sheetIs(x, 0, 2, -3, 29, 94, 0, 100, 0, 0);
        Check.due("drawn by spans", x.drawn(1, -7), 4);
        sheetIs(x, 0, 3, -3, 9, 100, 1, 100, 0, 0);
        Check.due("no status", x.count(9) + x.count(10), 0);
        Check.none("drawn by no law", () -> x.drawn(2, 0));
        Check.none("drawn by law -1", () -> x.drawn(-1, 0));
        Check.due("sheets stay", x.count(5), 4);
    }

    private static void drawnFar() {
        int most = -1000;
        int least = 1000;
        for (int seed = 0; seed < 200; seed++) {
            RubberHall x = Check.hall("person sight 1 joint 99 touch 1 leans 500;sitting far 999;law spans spread 99;");
            x.drawn(0, seed * 77777);
            most = Math.max(most, x.value(0, 20));
            least = Math.min(least, x.value(0, 20));
        }
        Check.due("the nearest that isn't beyond its bounds", most, 999);
        Check.due("to one side by spread at most", least >= 998 - 99 && least < 998 - 90, true);
    }

    private static void asManyAsThereMayBe() {
        RubberHall x = Check.hall("person sight1joint1touch1leans0;".repeat(13) + "sitting far1;".repeat(5) + "law wish;");
        Check.due("drawn of 13 and 5", x.drawn(0, 1), 60);
        Check.due("the last's person", x.value(59, 30), 11);
        Check.due("the last's sitting", x.value(59, 31), 4);
        Check.due("no status 2", x.count(10), 0);
        RubberHall y = Check.hall("law wish;sitting far 1;");
        Check.due("drawn of nobody", y.drawn(0, 1), 0);
    }

    private static void images() {
        RubberHall x = Check.hall(HOUSE + "off 900<shown;");
        Check.due("no image", x.restore(), false);
        x.sheet(1, 0);
        x.tell(0, 0, 3);
        x.tell(0, 23, -4);
        x.tell(0, 20, 950);
        x.image();
        x.tell(0, 0, -3);
        x.tell(0, 20, 1);
        x.sheet(0, 1);
        Check.due("restore", x.restore(), true);
        Check.due("sheets", x.count(5), 1);
        Check.due("an answer", x.value(0, 0), 3);
        Check.due("cold", x.value(0, 23), -4);
        Check.due("shown", x.value(0, 20), 950);
        Check.due("off", x.value(0, 34), 0);
        x.tell(0, 0, 1);
        Check.due("restore again", x.restore(), true);
        Check.due("the image stays as it was", x.value(0, 0), 3);
        x.drawn(0, 1);
        x.image();
        x.drawn(1, 2);
        x.sheet(0, 0);
        Check.due("restore another", x.restore(), true);
        Check.due("the other image is gone", x.count(5), 4);
        Check.sheets(x, "sheet 0 0;");
        Check.due("sheets behind it", x.count(5), 5);
        x.restore();
        Check.due("sheets before it", x.count(5), 4);
        Check.due("a house with a fault", Check.house(x, "x"), 1);
        Check.due("leaves the image", x.restore(), true);
        Check.house(x, HOUSE);
        Check.due("a house takes it", x.restore(), false);
        x.image();
        x.sheet(0, 0);
        Check.due("an image of no sheets is one", x.restore(), true);
        Check.due("no sheets", x.count(5), 0);
    }

    public static void main(String[] args) {
        sheets();
        tell();
        drawn();
        drawnFar();
        asManyAsThereMayBe();
        images();
        Check.end("SheetsTest");
    }
}
