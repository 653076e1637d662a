/** Terms SHEETS, OFF, SAYS YES, DRAWN and DRAW. */
public final class EdgesOfSheetsTest {
    private static final String MAN = "person sight1joint1touch1leans0;";
    // FORETOLD by its LAW: 0 and 0 of the LINES, SHOWN 50, START 50, SLOW 30: no DRAW goes beyond bounds
    private static final String MIDDLE = "person sight 1 joint 1 touch 1 leans 0 yes 50 wish 50;";
    private static final int[] WHATS = {0, 1, 20, 21, 22};

    private static RubberHall hall(int people, int sittings, String more) {
        return Check.hall(MAN.repeat(people) + "sitting far1;".repeat(sittings) + more);
    }

    private static void sheets() {
        Check.edge("Term SHEETS: none at first", () -> {
            RubberHall x = hall(1, 1, "");
            Check.due("count(5)", x.count(5), 0);
            Check.none("value(0, 20)", () -> x.value(0, 20));
        });
        Check.edge("Term SHEETS: numbered from 0 on, 60 at most by sheet()", () -> {
            RubberHall x = hall(2, 3, "");
            for (int i = 0; i < 60; i++) {
                Check.due("sheet " + i, x.sheet(i % 2, i % 3), i);
            }
            Check.due("count(5)", x.count(5), 60);
            Check.due("PERSON of 59", x.value(59, 30), 1);
            Check.due("SITTING of 59", x.value(59, 31), 2);
            Check.due("the 61st", x.sheet(0, 0), RubberHall.NONE);
            Check.due("count(5)", x.count(5), 60);
            Check.due("SITTING of 59", x.value(59, 31), 2);
        });
        Check.edge("Term SHEETS: 60 at most by TEXTS and sheet() together", () -> {
            RubberHall x = hall(1, 1, "");
            Check.due("30", Check.sheets(x, "sheet 0 0;".repeat(30)), 30);
            for (int i = 30; i < 59; i++) {
                Check.due("sheet " + i, x.sheet(0, 0), i);
            }
            Check.due("two by a TEXT", Check.sheets(x, "sheet 0 0;sheet 0 0;"), -3);
            Check.due("one by a TEXT", Check.sheets(x, "sheet 0 0;"), 1);
            Check.due("the 61st", x.sheet(0, 0), RubberHall.NONE);
            Check.due("the 61st by a TEXT", Check.sheets(x, "sheet 0 0;"), -3);
            Check.due("count(5)", x.count(5), 60);
        });
        Check.edge("Term SHEETS: all 0 at first, COLD not looked for", () -> {
            RubberHall x = hall(1, 1, "line felt;".repeat(6) + "line said;".repeat(6) + "law wish;");
            // what was told of an earlier SHEET of the same number is gone
            Check.sheets(x, "sheet 0 0" + " 6".repeat(12) + " shown 9 start 9 slow 9 cold 9;");
            x.image();
            Check.house(x, MAN + "sitting far1;" + "line felt;".repeat(12));
            Check.due("sheet", x.sheet(0, 0), 0);
            for (int what = 0; what < 12; what++) {
                Check.due("answer to LINE " + what, x.value(0, what), 0);
            }
            int[][] due = {{20, 0}, {21, 0}, {22, 0}, {23, 100}, {32, 0}, {33, 0}, {34, RubberHall.NONE}};
            for (int[] d : due) {
                Check.due("value(0, " + d[0] + ")", x.value(0, d[0]), d[1]);
            }
        });
    }

    private static void offs() {
        Check.edge("Term OFF: by the first RULE that holds, of none, one, some, all of four", () -> {
            RubberHall x = hall(1, 1, "off shown=1 or shown=4;off shown=2 or shown=4;"
                + "off start=1 or shown=4;off start=2 or shown=4;");
            int[][] due = {{0, 0, -1}, {1, 0, 0}, {2, 0, 1}, {0, 1, 2}, {0, 2, 3}, {1, 1, 0}, {2, 2, 1}, {4, 0, 0}, {3, 3, -1}};
            x.sheet(0, 0);
            for (int[] d : due) {
                x.tell(0, 20, d[0]);
                x.tell(0, 21, d[1]);
                Check.due("RULE of SHOWN " + d[0] + ", START " + d[1], x.value(0, 34), d[2]);
                Check.due("SHEETS that COUNT", x.count(6), d[2] == -1 ? 1 : 0);
            }
        });
        Check.edge("Term OFF: no RULE, no SHEET is OFF", () -> {
            RubberHall x = hall(1, 1, "line felt;");
            Check.sheets(x, "sheet 0 0 6 shown 999 start 100 slow 601 cold 50;");
            Check.due("RULE", x.value(0, 34), RubberHall.NONE);
            Check.due("SHEETS that COUNT", x.count(6), 1);
        });
        Check.edge("Term OFF: by a RULE ahead of a PERSON that SAYS YES", () -> {
            RubberHall x = hall(1, 1, "line said;off shown=1;");
            Check.sheets(x, "sheet 0 0 6 shown 1;sheet 0 0 3;");
            Check.due("both", x.value(0, 34), 0);
            Check.due("SAYS YES alone", x.value(1, 34), -2);
            Check.due("SHEETS that COUNT", x.count(6), 0);
        });
    }

    private static void saysYes(String lines, String sheets, int due) {
        RubberHall x = hall(2, 1, lines);
        Check.sheets(x, sheets);
        Check.due("SAYS YES by " + sheets, x.person(0, 6), due);
    }

    private static void yes() {
        Check.edge("Term SAYS YES: not without SHEETS", () -> saysYes("line said;", "", 0));
        Check.edge("Term SAYS YES: not without LINES SAID", () -> saysYes("line felt;", "sheet 0 0 6;", 0));
        Check.edge("Term SAYS YES: not at 0, nor below", () -> {
            saysYes("line said;", "sheet 0 0 3;", 0);
            saysYes("line said;", "sheet 0 0 2;", 0);
            saysYes("line said;line said;", "sheet 0 0 6 0;", 0);
            saysYes("line said;", "sheet 0 0 6;sheet 0 0 0;", 0);
        });
        Check.edge("Term SAYS YES: at 1", () -> {
            saysYes("line said;", "sheet 0 0 4;", 1);
            saysYes("line said;line said;", "sheet 0 0 6 1;", 1);
            saysYes("line said;", "sheet 0 0 6;sheet 0 0 1;", 1);
            saysYes("line said;line felt;line said;", "sheet 0 0 2 0 5;", 1);
        });
        Check.edge("Term SAYS YES: at the most, 60 SHEETS of 12 answers of 3", () -> {
            RubberHall x = hall(1, 1, "line said;".repeat(12));
            String sheet = "sheet 0 0" + " 6".repeat(12) + ";";
            Check.due("20", Check.sheets(x, sheet.repeat(20)), 20);
            Check.due("20 more", Check.sheets(x, sheet.repeat(20)), 20);
            Check.due("20 more", Check.sheets(x, sheet.repeat(20)), 20);
            Check.due("SAYS YES", x.person(0, 6), 1);
            Check.due("SHEETS that COUNT", x.count(6), 0);
            Check.due("said", x.value(59, 33), 36);
        });
        Check.edge("Term SAYS YES: LINES FELT count for nothing", () -> {
            saysYes("line felt;line said;", "sheet 0 0 6 3;", 0);
            saysYes("line felt;line said;", "sheet 0 0 0 4;", 1);
        });
        Check.edge("Term SAYS YES: all its SHEETS count, off by a RULE or not", () -> {
            saysYes("line said;off shown=1;", "sheet 0 0 6 shown 1;sheet 0 0 1;", 1);
            saysYes("line said;off shown=1;", "sheet 0 0 0 shown 1;sheet 0 0 5;", 0);
            saysYes("line said;off 1;", "sheet 0 0 4;", 1);
        });
        Check.edge("Term SAYS YES: its SHEETS alone count, and its alone are OFF", () -> {
            RubberHall x = hall(2, 1, "line said;");
            Check.sheets(x, "sheet 0 0 3;sheet 1 0 4;sheet 0 0 3;sheet 1 0 3;");
            int[] due = {-1, -2, -1, -2};
            for (int i = 0; i < 4; i++) {
                Check.due("RULE of " + i, x.value(i, 34), due[i]);
            }
            Check.due("SAYS YES of 0", x.person(0, 6), 0);
            Check.due("SAYS YES of 1", x.person(1, 6), 1);
        });
        Check.edge("Term SAYS YES: of the last of 20 PEOPLE", () -> {
            RubberHall x = hall(20, 1, "line said;");
            Check.sheets(x, "sheet 19 0 4;sheet 18 0 3;");
            Check.due("of 19", x.person(19, 6), 1);
            Check.due("of 18", x.person(18, 6), 0);
            Check.due("of 0", x.person(0, 6), 0);
        });
    }

    private static void drawnAre(String house, int seed, int... due) {
        RubberHall x = Check.hall(house);
        Check.due("drawn(0, " + seed + ")", x.drawn(0, seed), due.length / 5);
        for (int i = 0; i < due.length; i++) {
            Check.due("value(" + i / 5 + ", " + WHATS[i % 5] + ") by seed " + seed, x.value(i / 5, WHATS[i % 5]), due[i]);
        }
        for (int i = 0; i < due.length / 5; i++) {
            Check.due("COLD of " + i, x.value(i, 23), 100);
        }
    }

    private static void draws() {
        String lines = "line felt;line said;";
        String one = MIDDLE + "sitting far 100;law wish;" + lines;
        Check.edge("Term DRAW: seeds 0, 1, -1, the most, the least, one that wraps at once", () -> {
            drawnAre(one, 0, -1, -1, 55, 44, 25);
            drawnAre(one, 1, 1, 0, 57, 41, 34);
            drawnAre(one, -1, 1, 1, 52, 46, 26);
            drawnAre(one, Integer.MAX_VALUE, 1, 1, 52, 46, 26);
            drawnAre(one, Integer.MIN_VALUE, -1, -1, 55, 44, 25);
            drawnAre(one, 65536, 0, 1, 57, 57, 27);
        });
        Check.edge("Term DRAW: bits 16 to 30, all or none, bit 31 is none of them", () -> {
            // the first seeds are ffff1234, 80001234, 7fff1234, 00001234
            drawnAre(one, -1587310329, 0, 1, 31, 56, 32);
            drawnAre(one, 214470919, -1, 0, 68, 49, 35);
            drawnAre(one, 560173319, 0, 1, 31, 56, 32);
            drawnAre(one, -1933012729, -1, 0, 68, 49, 35);
        });
        Check.edge("Term DRAWN: SHOWN by SPREAD 1, 20 and 99", () -> {
            String house = MIDDLE + "sitting far 100;" + lines;
            drawnAre(house + "law wish spread 1;", 7, 0, 1, 51, 55, 29);
            drawnAre(house + "law wish;", 7, 0, 1, 33, 55, 29);
            drawnAre(house + "law wish spread 99;", 7, 0, 1, 73, 55, 29);
        });
        Check.edge("Term DRAWN: of all PEOPLE from 0 on, of each all SITTINGS, by one row of DRAWS", () -> {
            String house = MIDDLE.repeat(2) + "sitting far 100;".repeat(2) + "law wish;" + lines;
            drawnAre(house, 5, 0, -1, 68, 60, 32, 1, 1, 40, 41, 27, -1, 1, 56, 57, 35, 1, 1, 31, 41, 34);
            RubberHall x = Check.hall(house);
            x.drawn(0, 5);
            for (int i = 0; i < 4; i++) {
                Check.due("PERSON of " + i, x.value(i, 30), i / 2);
                Check.due("SITTING of " + i, x.value(i, 31), i % 2);
            }
        });
        Check.edge("Term DRAWN: of PEOPLE and SITTINGS that are unlike", () -> {
            // what is FORETOLD of LINE 1 (by YES), of SHOWN, START and SLOW (by WISH); less of each DRAW
            String house = "person sight 1 joint 1 touch 1 leans 0 yes 50 wish 50;"
                + "person sight 1 joint 1 touch 1 leans 0 yes 67 wish 20;"
                + "sitting far 100 strokes 100;sitting far 300 strokes 50;law wish;" + lines;
            int[][] due = {{0, 50, 50, 50}, {0, 150, 50, 25}, {1, 20, 20, 80}, {1, 60, 20, 40}};
            int[] aside = {1, 20, 10, 5};
            RubberHall x = Check.hall(house);
            x.drawn(0, 5);
            int now = 5;
            for (int i = 0; i < 4; i++) {
                now = next(now);
                for (int j = 0; j < 4; j++) {
                    now = next(now);
                    int drawn = due[i][j] + draw(now, 2 * aside[j] + 1) - aside[j];
                    Check.due("value(" + i + ", " + WHATS[1 + j] + ")", x.value(i, WHATS[1 + j]), drawn);
                }
            }
        });
        Check.edge("Term DRAWN: without LINES, of 12 LINES", () -> {
            RubberHall x = Check.hall(MIDDLE + "sitting far 100;law wish;");
            x.drawn(0, 5);
            int now = 5;
            now = next(now);
            Check.due("SHOWN without LINES", x.value(0, 20), 50 + draw(now, 41) - 20);
            RubberHall y = Check.hall(MIDDLE + "sitting far 100;law wish;" + "line felt;line said;".repeat(6));
            y.drawn(0, 5);
            now = 5;
            for (int i = 0; i < 12; i++) {
                now = next(now);
                Check.due("answer to LINE " + i, y.value(0, i), draw(now, 3) - 1);
            }
            now = next(now);
            Check.due("SHOWN", y.value(0, 20), 50 + draw(now, 41) - 20);
        });
    }

    private static int next(int seed) {
        return seed * 1103515245 + 12345;
    }

    private static int draw(int seed, int n) {
        return (seed >>> 16) % 32768 % n;
    }

    /** DRAWN by 40 seeds, of one LINE FELT: a number is what is FORETOLD and a DRAW, or the bound beyond which that is. */
    private static void cutOff(String house, int what, int foretold, int aside, int bound) {
        int beyond = 0;
        for (int seed = 1; seed <= 40; seed++) {
            RubberHall x = Check.hall(house + "line felt;");
            x.drawn(0, seed);
            int now = next(seed);
            for (int i = 20; i <= what; i++) {
                now = next(now);
            }
            int due = foretold + draw(now, aside + aside + 1) - aside;
            boolean isBeyond = bound > 0 ? due > bound : due < bound;
            beyond += isBeyond ? 1 : 0;
            Check.due("value(0, " + what + ") by seed " + seed, x.value(0, what), isBeyond ? bound : due);
        }
        Check.due("some are beyond the bound", beyond > 0, true);
    }

    private static void bounds() {
        String never = "person sight 1 joint 1 touch 1 leans 0;sitting far 1 strokes 600;law odds;";
        String none = "person sight 1 joint 1 touch 1 leans 0;sitting far 999 strokes 600;law wish;";
        String all = "person sight 1 joint 99 touch 1 leans 0 wish 100;sitting far 999;law wish spread 99;";
        Check.edge("Term DRAWN: an answer above 3 is 3", () -> cutOff(all, 0, 3, 1, 3));
        Check.edge("Term DRAWN: an answer below -3 is -3", () -> cutOff(never, 0, -3, 1, -3));
        Check.edge("Term DRAWN: SHOWN above 999 is 999", () -> cutOff(all, 20, 999, 99, 999));
        Check.edge("Term DRAWN: SHOWN below 0 is as it is", () -> {
            RubberHall x = Check.hall(none + "line felt;");
            int below = 0;
            for (int seed = 1; seed <= 40; seed++) {
                x.drawn(0, seed);
                int due = draw(next(next(seed)), 41) - 20;
                below += due < 0 ? 1 : 0;
                Check.due("SHOWN by seed " + seed, x.value(0, 20), due);
            }
            Check.due("some are below 0", below > 0, true);
        });
        Check.edge("Term DRAWN: START above 100 is 100", () -> cutOff(all, 21, 100, 10, 100));
        Check.edge("Term DRAWN: START below 0 is 0", () -> cutOff(never, 21, 0, 10, 0));
        Check.edge("Term DRAWN: SLOW above 601 is 601", () -> cutOff(never, 22, 601, 5, 601));
        Check.edge("Term DRAWN: SLOW of 600 STROKES by no WISH is 601 at most", () -> cutOff(none, 22, 600, 5, 601));
        Check.edge("Term DRAWN: SLOW below 0 is 0", () -> cutOff(all, 22, 0, 5, 0));
    }

    private static void many() {
        Check.edge("Term DRAWN: of no PEOPLE or no SITTINGS none, and those that were are gone", () -> {
            RubberHall x = hall(0, 1, "law wish;");
            Check.due("of no PEOPLE", x.drawn(0, 1), 0);
            RubberHall y = hall(1, 0, "law wish;");
            Check.due("of no SITTINGS", y.drawn(0, 1), 0);
            RubberHall z = Check.hall("law wish;");
            Check.due("of neither", z.drawn(0, 1), 0);
            Check.due("count(5)", z.count(5), 0);
        });
        Check.edge("Term DRAWN: 60 of 3 by 20, of 12 by 5, of 20 by 3", () -> {
            int[][] of = {{3, 20}, {12, 5}, {20, 3}};
            for (int[] o : of) {
                RubberHall x = hall(o[0], o[1], "law wish;");
                Check.due("drawn", x.drawn(0, 1), 60);
                Check.due("PERSON of 59", x.value(59, 30), o[0] - 1);
                Check.due("SITTING of 59", x.value(59, 31), o[1] - 1);
            }
        });
        Check.edge("Term DRAWN: as many as there may be, of 61 and more", () -> {
            int[][] of = {{4, 20, 2, 19}, {13, 5, 11, 4}, {16, 4, 14, 3}, {9, 7, 8, 3}};
            for (int[] o : of) {
                RubberHall x = hall(o[0], o[1], "law wish;");
                Check.due("drawn", x.drawn(0, 1), 60);
                Check.due("count(5)", x.count(5), 60);
                Check.due("PERSON of 59", x.value(59, 30), o[2]);
                Check.due("SITTING of 59", x.value(59, 31), o[3]);
                Check.due("STATUS 2", x.count(10), 0);
            }
        });
        Check.edge("Term DRAWN: 59 leave room for one", () -> {
            RubberHall x = hall(1, 1, "law wish;");
            for (int i = 0; i < 59; i++) {
                x.sheet(0, 0);
            }
            Check.due("drawn", x.drawn(0, 1), 1);
            Check.due("those that were are gone", x.count(5), 1);
            Check.due("the next", x.sheet(0, 0), 1);
        });
        Check.edge("Term DRAWN: anew by the same seed the same, whatever was told before", () -> {
            RubberHall x = Check.hall(MIDDLE + "sitting far 100;law wish;line felt;line said;off shown=900;");
            Check.sheets(x, "sheet 0 0 6 6 shown 900 start 9 slow 9 cold 9;".repeat(3));
            Check.due("drawn", x.drawn(0, 5), 1);
            int[] due = {0, -1, 68, 60, 32};
            for (int i = 0; i < 5; i++) {
                Check.due("value(0, " + WHATS[i] + ")", x.value(0, WHATS[i]), due[i]);
            }
            Check.due("COLD isn't looked for", x.value(0, 23), 100);
            Check.due("looked for", x.cold(0), 0);
            Check.due("count(6)", x.count(6), 1);
        });
    }

    public static void main(String[] args) {
        sheets();
        offs();
        yes();
        draws();
        bounds();
        many();
        Check.end("EdgesOfSheetsTest");
    }
}
