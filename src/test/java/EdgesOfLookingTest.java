/** Terms LOOKED, CHANCE, SPANS BEST, COLD, FOUND, AGAIN, STATUS, and how long an object is used. */
public final class EdgesOfLookingTest {
    private static final String MAN = "person sight1joint1touch1leans0;";
    private static final int NONE = RubberHall.NONE;

    private static void lookings() {
        RubberHall x = new RubberHall();
        Check.edge("Term LOOKED: once", () -> {
            Check.due("looked(1, 0, 0)", x.looked(1, 0, 0), 1000000);
            Check.due("looked(1, 0, 37)", x.looked(1, 0, 37), 1000000);
            Check.due("looked(1, 1, 37)", x.looked(1, 1, 37), 370000);
        });
        Check.edge("Term LOOKED: by a chance of 0", () -> {
            Check.due("looked(1, 1, 0)", x.looked(1, 1, 0), 0);
            Check.due("looked(40, 0, 0)", x.looked(40, 0, 0), 1000000);
            Check.due("looked(40, 1, 0)", x.looked(40, 1, 0), 0);
        });
        Check.edge("Term LOOKED: by a chance of 100", () -> {
            Check.due("looked(1, 1, 100)", x.looked(1, 1, 100), 1000000);
            Check.due("looked(40, 0, 100)", x.looked(40, 0, 100), 1000000);
            Check.due("looked(40, 1, 100)", x.looked(40, 1, 100), 1000000);
            Check.due("looked(40, 40, 100)", x.looked(40, 40, 100), 1000000);
        });
        Check.edge("Term LOOKED: 40 times, found none to all", () -> {
            Check.due("looked(40, 0, 50)", x.looked(40, 0, 50), 999816);
            Check.due("looked(40, 20, 50)", x.looked(40, 20, 50), 562589);
            Check.due("looked(40, 40, 99)", x.looked(40, 40, 99), 668956);
            Check.due("looked(40, 39, 99)", x.looked(40, 39, 99), 939227);
            Check.due("looked(39, 39, 99)", x.looked(39, 39, 99), 675714);
            Check.due("looked(40, 0, 1)", x.looked(40, 0, 1), 999892);
            Check.due("looked(40, 0, 99)", x.looked(40, 0, 99), 999892);
        });
        Check.edge("Term CHANCE: of as many or more", () -> {
            Check.due("looked(2, 0, 50)", x.looked(2, 0, 50), 1000000);
            Check.due("looked(2, 1, 50)", x.looked(2, 1, 50), 750000);
            Check.due("looked(2, 2, 50)", x.looked(2, 2, 50), 250000);
        });
        Check.edge("Term LOOKED: both together by 100, cut down", () -> {
            // 10000, 100, 1, then 0.01
            Check.due("looked(1, 1, 1)", x.looked(1, 1, 1), 10000);
            Check.due("looked(2, 2, 1)", x.looked(2, 2, 1), 100);
            Check.due("looked(3, 3, 1)", x.looked(3, 3, 1), 1);
            Check.due("looked(4, 4, 1)", x.looked(4, 4, 1), 0);
            // the numbers of three are 970299, 29403, 297, 1, then of none 960596.01, of one 38811.96, of two 588.06
            Check.due("looked(4, 0, 1)", x.looked(4, 0, 1), 960596 + 38811 + 588 + 3);
        });
        Check.edge("Term LOOKED: each time anew, few behind many", () -> {
            x.looked(40, 0, 50);
            Check.due("looked(1, 0, 50)", x.looked(1, 0, 50), 1000000);
            Check.due("looked(1, 1, 50)", x.looked(1, 1, 50), 500000);
            Check.due("looked(2, 2, 50)", x.looked(2, 2, 50), 250000);
        });
    }

    private static void best(RubberHall x, int law, int person, int sight, int joint, int differs) {
        Check.due("SIGHT", x.spans(law, person, 0), sight);
        Check.due("JOINT", x.spans(law, person, 1), joint);
        Check.due("what differs", x.spans(law, person, 2), differs);
    }

    private static RubberHall shown(int far, int... shown) {
        RubberHall x = Check.hall(MAN.repeat(2) + "sitting far " + far + ";law spans;law wish;line said;off shown=900;");
        for (int s : shown) {
            x.tell(x.sheet(0, 0), 20, s);
        }
        return x;
    }

    private static void bests() {
        Check.edge("Term SPANS BEST: none of no SHEETS, of SHEETS that are OFF, of another PERSON", () -> {
            best(shown(100), 0, 0, NONE, NONE, NONE);
            best(shown(100, 900, 900), 0, 0, NONE, NONE, NONE);
            best(shown(100, 50), 0, 1, NONE, NONE, NONE);
            RubberHall x = shown(100, 50);
            x.tell(0, 0, 1);
            best(x, 0, 0, NONE, NONE, NONE);
        });
        Check.edge("Term SPANS BEST: of like ones the least SIGHT, then JOINT", () -> {
            // half by any two like ones
            best(shown(100, 50), 0, 0, 5, 5, 0);
            // FAR 0: all are like; by WISH, too
            best(shown(0, 7), 0, 0, 5, 5, 7);
            best(shown(100, 7), 1, 0, 5, 5, 7);
            // 9 by 10 is 15 15 by (15 15 and 5 5), 45 45 by (45 45 and 15 15), 75 75 by (75 75 and 25 25)
            best(shown(100, 90), 0, 0, 5, 15, 0);
            best(shown(100, 10), 0, 0, 15, 5, 0);
        });
        Check.edge("Term SPANS BEST: SIGHT 5 and JOINT 95, the least and the most", () -> {
            // 999 by 9025 by 9050 is 996.2, by 7225 by 7250 it is 995.5
            best(shown(999, 999), 0, 0, 5, 95, 3);
            best(shown(999, 995), 0, 0, 5, 85, 0);
        });
        Check.edge("Term SPANS BEST: SIGHT 95 and JOINT 5, the most and the least", () -> {
            // 999 by 25 by 9050 is 2.76, by 25 by 7250 3.4
            best(shown(999, -999), 0, 0, 95, 5, 1001);
            best(shown(999, 2), 0, 0, 95, 5, 0);
            best(shown(999, 3), 0, 0, 85, 5, 0);
        });
        Check.edge("Term SPANS BEST: 95 and 85, not 95 and 95 nor 100", () -> {
            // 999 by 7225 by 16250 is 444.2; 999 by 9025 by 16250 is 554.8
            best(shown(999, 444), 0, 0, 95, 85, 0);
            best(shown(999, 554), 0, 0, 85, 95, 0);
        });
        Check.edge("Term SPANS BEST: what differs is least together over its SHEETS", () -> {
            best(shown(100, 50, 90), 0, 0, 5, 5, 40);
            // 100 by 25 by 650 is 3, by 25 by 250 it is 10: 7 and 0, or 1 and 6 of 4
            best(shown(100, 10, 10, 3), 0, 0, 15, 5, 7);
            best(shown(100, 3, 3, 10), 0, 0, 25, 5, 7);
        });
        Check.edge("Term SPANS BEST: by the PERSON's own LEANS and TOUCH", () -> {
            RubberHall x = Check.hall("person sight 1 joint 1 touch 100 leans 1000;person sight 1 joint 1 touch 100 leans 0;"
                + "person sight 1 joint 1 touch 100 leans 500;person sight 1 joint 1 touch 900 leans 500;"
                + "sitting far 100;sitting far 100 late 500 strokes 2;law odds;");
            Check.sheets(x, "sheet 0 0 shown 90;sheet 1 0 shown 90;sheet 2 1 shown 40;sheet 3 1 shown 40;");
            best(x, 0, 0, 5, 15, 0);
            best(x, 0, 1, 5, 5, 90);
            best(x, 0, 2, 5, 75, 38);
            best(x, 0, 3, 5, 15, 0);
        });
        Check.edge("Term SPANS BEST: by the PERSON's own WISH, by LAW WISH", () -> {
            RubberHall x = Check.hall("person sight 1 joint 1 touch 1 leans 0 wish 40;"
                + "person sight 1 joint 1 touch 1 leans 0 wish 70;sitting far 100;law wish;");
            Check.sheets(x, "sheet 0 0 shown 50;sheet 1 0 shown 50;");
            best(x, 0, 0, 5, 5, 10);
            best(x, 0, 1, 5, 5, 20);
            best(x, 0, 0, 5, 5, 10);
        });
        Check.edge("Term SPANS BEST: the PERSON's own spans stay", () -> {
            RubberHall x = shown(100, 90);
            best(x, 0, 0, 5, 15, 0);
            Check.due("SIGHT", x.person(0, 0), 1);
            Check.due("DRIFT", x.held(0, 0, 0, 1), 50);
        });
        Check.edge("Term SPANS BEST: of 60 SHEETS", () -> {
            RubberHall x = Check.hall(MAN + "sitting far 0;law spans;");
            for (int i = 0; i < 60; i++) {
                x.tell(x.sheet(0, 0), 20, i % 2 == 0 ? 999 : -999);
            }
            best(x, 0, 0, 5, 5, 59940);
        });
    }

    private static void cold(String sheets, int... due) {
        RubberHall x = Check.hall(MAN.repeat(3) + "sitting far1;line said;off shown=900;");
        Check.due("sheets without a FAULT", Check.sheets(x, sheets) >= 0, true);
        for (int what = 0; what < 4; what++) {
            Check.due("cold(" + what + ") of " + sheets, x.cold(what), due[what]);
        }
    }

    private static void colds() {
        Check.edge("Term COLD: of no SHEETS, of those in which it wasn't looked for", () -> {
            cold("", 0, 0, 0, 0);
            cold("sheet 0 0;sheet 0 0;", 0, 0, 0, 0);
        });
        Check.edge("Term COLD: looked for at 0, at 50, at -50", () -> {
            cold("sheet 0 0 cold 0;", 1, 0, 0, 0);
            cold("sheet 0 0 cold 50;", 1, 0, 0, 0);
            cold("sheet 0 0 cold less 50;", 1, 1, 0, 0);
        });
        Check.edge("Term FOUND: at -2, not at -1, nor at 2", () -> {
            cold("sheet 0 0 cold less 2;", 1, 1, 0, 0);
            cold("sheet 0 0 cold less 1;", 1, 0, 0, 0);
            cold("sheet 0 0 cold 2;", 1, 0, 0, 0);
            cold("sheet 0 0 cold less 3;", 1, 1, 0, 0);
        });
        Check.edge("Term COLD: SHEETS that are OFF are none", () -> {
            cold("sheet 0 0 shown 900 cold less 9;", 0, 0, 0, 0);
            cold("sheet 0 0 4 cold less 9;", 0, 0, 0, 0);
        });
        Check.edge("Term AGAIN: who has no second one can't", () -> {
            cold("sheet 0 0 cold less 9;sheet 1 0 cold less 9;", 2, 2, 0, 0);
            cold("sheet 0 0 cold less 9;sheet 0 0;", 1, 1, 0, 0);
            cold("sheet 0 0 cold less 9;sheet 0 0 shown 900 cold less 9;", 1, 1, 0, 0);
        });
        Check.edge("Term AGAIN: whose first FOUND it, in the second -2 and -1", () -> {
            cold("sheet 0 0 cold less 2;sheet 0 0 cold less 2;", 2, 2, 1, 1);
            cold("sheet 0 0 cold less 2;sheet 0 0 cold less 1;", 2, 1, 1, 0);
        });
        Check.edge("Term AGAIN: whose first didn't find it can't", () -> cold(
            "sheet 0 0 cold less 1;sheet 0 0 cold less 2;sheet 0 0 cold less 2;", 3, 2, 0, 0));
        Check.edge("Term AGAIN: the third counts for nothing", () -> {
            cold("sheet 0 0 cold less 2;sheet 0 0 cold 0;sheet 0 0 cold less 2;", 3, 2, 1, 0);
            cold("sheet 0 0 cold less 2;sheet 0 0 cold less 2;sheet 0 0 cold 0;", 3, 2, 1, 1);
        });
        Check.edge("Term AGAIN: the first such SHEET by number, behind others that are none", () -> {
            cold("sheet 0 0;sheet 0 0 shown 900 cold 0;sheet 1 0 cold 0;sheet 0 0 cold less 2;sheet 0 0;sheet 0 0 cold less 2;",
                3, 2, 1, 1);
        });
        Check.edge("Term AGAIN: of each PERSON by itself", () -> {
            cold("sheet 0 0 cold less 2;sheet 1 0 cold less 2;sheet 2 0 cold 0;sheet 2 0 cold less 2;sheet 1 0 cold 0;"
                + "sheet 0 0 cold less 2;", 6, 4, 2, 1);
        });
        Check.edge("Term AGAIN: of the last of 60 SHEETS, the last of 20 PEOPLE", () -> {
            RubberHall x = Check.hall(MAN.repeat(20) + "sitting far1;");
            for (int i = 0; i < 60; i++) {
                x.sheet(i < 58 ? 0 : 19, 0);
            }
            x.tell(58, 23, -2);
            x.tell(59, 23, -2);
            int[] due = {2, 2, 1, 1};
            for (int what = 0; what < 4; what++) {
                Check.due("cold(" + what + ")", x.cold(what), due[what]);
            }
        });
    }

    private static void status(RubberHall x, int texts, int numbers, int sheets) {
        Check.due("STATUS 0", x.count(8), texts);
        Check.due("STATUS 1", x.count(9), numbers);
        Check.due("STATUS 2", x.count(10), sheets);
    }

    private static void statuses() {
        Check.edge("Term STATUS: 0 at first", () -> status(new RubberHall(), 0, 0, 0));
        Check.edge("Term STATUS: 0 TEXTS with a FAULT, of a HOUSE and of SHEETS, each once", () -> {
            RubberHall x = Check.hall(MAN + "sitting far1;");
            status(x, 0, 0, 0);
            Check.house(x, "x x x");
            status(x, 1, 0, 0);
            Check.sheets(x, "x x x");
            status(x, 2, 0, 0);
            Check.sheets(x, "sheet 0 0;sheet 9 9;");
            status(x, 3, 0, 0);
            Check.sheets(x, "sheet 0 0;");
            Check.house(x, "line felt;");
            status(x, 3, 0, 0);
        });
        Check.edge("Term STATUS: 1 numbers beyond their bounds, by tell() alone", () -> {
            RubberHall x = Check.hall(MAN + "sitting far1;law odds;");
            x.sheet(0, 0);
            x.tell(0, 20, 1000);
            status(x, 0, 1, 0);
            x.tell(0, 20, 999);
            status(x, 0, 1, 0);
            x.tell(0, 20, -1000);
            status(x, 0, 2, 0);
            Check.illegal("weight", () -> x.weight(0, 0));
            Check.illegal("looked", () -> x.looked(41, 0, 0));
            Check.illegal("at", () -> x.at(0, 0, 1000, 0));
            Check.illegal("one", () -> x.one(0, 0, 0, 61));
            Check.illegal("house", () -> x.house(1));
            Check.none("tell of another what", () -> x.tell(0, 24, 1000));
            Check.none("tell of no SHEET", () -> x.tell(1, 20, 1000));
            status(x, 0, 2, 0);
            // a number beyond its bounds in a TEXT is a TEXT with a FAULT
            Check.sheets(x, "sheet 0 0 shown 1000;");
            status(x, 1, 2, 0);
        });
        Check.edge("Term STATUS: 2 SHEETS above 60, by sheet() alone", () -> {
            RubberHall x = Check.hall(MAN.repeat(8) + "sitting far1;".repeat(8) + "law odds;");
            for (int i = 0; i < 60; i++) {
                x.sheet(0, 0);
            }
            status(x, 0, 0, 0);
            x.sheet(0, 0);
            status(x, 0, 0, 1);
            x.sheet(7, 7);
            status(x, 0, 0, 2);
            Check.none("sheet of no PERSON", () -> x.sheet(8, 0));
            status(x, 0, 0, 2);
            Check.sheets(x, "sheet 0 0;");
            status(x, 1, 0, 2);
            Check.due("drawn", x.drawn(0, 1), 60);
            status(x, 1, 0, 2);
        });
        Check.edge("Term STATUS: feed() beyond 700, restore() without an image are in none", () -> {
            RubberHall x = new RubberHall();
            for (int i = 0; i < 36; i++) {
                x.feed(0, 0, 0, 0, 0);
            }
            x.restore();
            status(x, 0, 0, 0);
        });
        Check.edge("What it is: 512 calls, the last as good as the first", () -> {
            RubberHall x = new RubberHall();
            int calls = Check.feed(x, MAN + "sitting far1;") / 20 + 1;
            x.house(45);
            x.sheet(0, 0);
            for (int i = calls + 2; i < 511; i++) {
                x.tell(0, 20, 1000);
            }
            Check.due("the 512th", x.count(9), 511 - calls - 2);
        });
    }

    public static void main(String[] args) {
        lookings();
        bests();
        colds();
        statuses();
        Check.end("EdgesOfLookingTest");
    }
}
