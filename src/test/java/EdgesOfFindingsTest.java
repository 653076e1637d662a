/** Terms from COUNT to NEXT: what is found in SHEETS that COUNT, and of the LAWS. */
public final class EdgesOfFindingsTest {
    private static final String MAN = "person sight1joint1touch1leans0;";
    private static final int NONE = RubberHall.NONE;

    /** A hall with SHEETS; those with SHOWN 900 are OFF by a RULE. */
    private static RubberHall hall(String house, String sheets) {
        RubberHall x = Check.hall(house + "off shown=900;");
        Check.due("sheets without a FAULT", Check.sheets(x, sheets) >= 0, true);
        return x;
    }

    private static void counts() {
        Check.edge("Term COUNT: SHEETS that aren't OFF: none, some, all of 60", () -> {
            RubberHall x = hall(MAN.repeat(2) + "sitting far1;line said;", "");
            Check.due("of none", x.count(6), 0);
            Check.sheets(x, "sheet 0 0;".repeat(60));
            Check.due("all", x.count(6), 60);
            x.tell(59, 20, 900);
            Check.due("one OFF by a RULE", x.count(6), 59);
            x.tell(0, 0, 1);
            Check.due("all OFF", x.count(6), 0);
        });
    }

    private static void credit(String house, String sheets, int... due) {
        RubberHall x = hall(house, sheets);
        for (int i = 0; i < due.length; i++) {
            Check.due("CREDIT of " + i + " by " + sheets, x.credit(i), due[i]);
        }
    }

    private static void credits() {
        Check.edge("Term CREDIT: at first like shares of 1,000,000, cut down, of 1 to 6 LAWS", () -> {
            int[] due = {1000000, 500000, 333333, 250000, 200000, 166666};
            for (int laws = 1; laws <= 6; laws++) {
                RubberHall x = hall("law odds;".repeat(laws), "");
                for (int i = 0; i < laws; i++) {
                    Check.due("of " + laws, x.credit(i), due[laws - 1]);
                }
            }
        });
        Check.edge("Term CREDIT: of 6 LAWS behind a SHEET", () -> {
            // SHOWN is 3 beside 0 by SPREADS 1 to 6: FITs 100000, 307000, 500000, 640000, 735000, 800000
            StringBuilder laws = new StringBuilder();
            for (int i = 1; i <= 6; i++) {
                laws.append("law spans spread ").append(i).append(';');
            }
            credit(MAN + "sitting far0;" + laws, "sheet 0 0 shown 3 start 100;", 32446, 99610, 162232, 207657, 238481, 259571);
        });
        Check.edge("Term CREDIT: SHEETS that are OFF change nothing", () -> credit(MAN
            + "sitting far0;law spans;law wish;line said;", "sheet 0 0 6 start 100;sheet 0 0 1 shown 900;", 500000, 500000));
        Check.edge("Term CREDIT: of one LAW 1,000,000 behind any SHEETS", () -> credit(
            MAN + "sitting far0;law spans;", "sheet 0 0 start 0;".repeat(30), 1000000));
        Check.edge("Term CREDIT: of like LAWS in millionths of all together, cut down", () -> {
            credit(MAN + "sitting far0;law spans;law spans;", "sheet 0 0 start 50;", 500000, 500000);
            credit(MAN + "sitting far0;law spans;law spans;law spans;", "sheet 0 0 start 50;", 333333, 333333, 333333);
        });
        String two = MAN + "sitting far40;law spans;law wish;";
        Check.edge("Term FIT: by what SHOWN and FORETOLD differ by SPREAD", () -> {
            // SPANS FORETELL 20, WISH 0
            credit(two, "sheet 0 0 shown 0 start 50;", 333333, 666666);
            credit(two, "sheet 0 0 shown 10 start 50;", 500000, 500000);
            credit(two, "sheet 0 0 shown 20 start 50;", 666666, 333333);
            // SPREADS 1, 20, 99
            String one = MAN + "sitting far40;law spans;";
            credit(one + "law spans spread 1;", "sheet 0 0 shown 30 start 100;", 988875, 11124);
            credit(one + "law spans spread 99;", "sheet 0 0 shown 30 start 100;", 447177, 552822);
        });
        Check.edge("Term FIT: by what is FORETOLD of the SHEET's own PERSON and SITTING", () -> {
            // by SPANS 0, 20 of the first, 0, 39 of the second PERSON, by WISH 0, 20 and 0, 0; START 100 beside 50 and 0
            String unlike = "person sight1joint1touch1leans0wish 50;person sight1joint99touch1leans0;"
                + "sitting far0;sitting far40;law spans;law wish;";
            credit(unlike, "sheet 0 1 shown 20 start 75;", 500000, 500000);
            credit(unlike, "sheet 1 1 shown 20 start 50;", 512195, 487804);
            credit(unlike, "sheet 1 1 shown 39 start 50;", 827814, 172185);
            credit(unlike, "sheet 1 0 shown 39 start 50;", 500000, 500000);
        });
        Check.edge("Term FIT: by what START and FORETOLD differ by 10", () -> {
            // SPANS FORETELL 100, WISH 0
            credit(two, "sheet 0 0 shown 10 start 0;", 8919, 991080);
            credit(two, "sheet 0 0 shown 10 start 49;", 486842, 513157);
            credit(two, "sheet 0 0 shown 10 start 100;", 991080, 8919);
        });
        Check.edge("Term FIT: by what answers and FORETOLD differ by 2, LINE by LINE", () -> {
            // SPANS FORETELL 3, WISH -3; of the SAID both -3
            credit(two + "line felt;line said;", "sheet 0 0 0 0 shown 10 start 50;", 90909, 909090);
            credit(two + "line felt;line said;", "sheet 0 0 2 0 shown 10 start 50;", 285714, 714285);
            credit(two + "line felt;line said;", "sheet 0 0 3 0 shown 10 start 50;", 500000, 500000);
            credit(two + "line said;line felt;", "sheet 0 0 0 6 shown 10 start 50;", 909090, 90909);
        });
        Check.edge("Term FIT: a factor is 1 at least", () -> {
            // SHOWN 80 beside 0: the WEIGHT by SPREAD 1 is 156, by 20 it is 58823
            credit("person sight 10 joint 20 touch 1 leans 0;sitting far 100;law spans spread 1;law spans;",
                "sheet 0 0 start 100;", 16949, 983050);
            // both are 1
            credit(two, "sheet 0 0 shown 999 start 50;", 500000, 500000);
            credit(two, "sheet 0 0 shown less 999 start 50;", 500000, 500000);
        });
        Check.edge("Term FIT: it is 1 at least behind each factor", () -> {
            // FITs 1 and 520
            credit("person sight 10 joint 20 touch 1 leans 0;sitting far 100;law spans;law wish;" + "line felt;".repeat(12),
                "sheet 0 0 1 1 1 1 1 1 1 1 1 1 1 1 shown 40 start 50;", 1919, 998080);
        });
        String all = "sheet 0 0" + " 6".repeat(12) + " start 100;";
        String none = "sheet 0 0" + " 0".repeat(12) + ";";
        String twelve = MAN + "sitting far0;law spans;law wish;" + "line felt;".repeat(12);
        Check.edge("Term CREDIT: cut down to 0 it stays 0, by SHEETS from 0 on", () -> {
            // FITs 1,000,000 and 1, then 1 and 1,000,000
            credit(twelve, all, 999999, 0);
            credit(twelve, all + none, 1000000, 0);
            credit(twelve, none + all, 0, 1000000);
        });
    }

    private static void fails(RubberHall x, int law, int... due) {
        for (int what = 0; what < 4; what++) {
            Check.due("fails(" + law + ", " + what + ")", x.fails(law, what), due[what]);
        }
    }

    private static void failures() {
        // SPANS FORETELL SHOWN of 20 of the first and 8 of the second PERSON in the first SITTING, 499 and 199 in the other
        String house = MAN + "person sight2joint1touch1leans0;sitting far40;sitting far999;law spans;law wish;";
        Check.edge("Term FAILS: of no SHEETS that COUNT 0", () -> {
            fails(hall(house, ""), 0, 0, 0, 0, 0);
            fails(hall(house, "sheet 0 0 shown 900;sheet 1 0 shown 900;"), 0, 0, 0, 0, 0);
        });
        Check.edge("Term FAILS: of SHOWN as FORETOLD 0, to either side the same", () -> {
            fails(hall(house, "sheet 0 0 shown 20;"), 0, 0, 0, 0, 0);
            fails(hall(house, "sheet 0 0 shown 21;sheet 0 0 shown 19;"), 0, 2, 0, 0, 0);
            fails(hall(house, "sheet 0 0 shown less 20;"), 0, 40, 0, 0, 0);
        });
        Check.edge("Term FAILS: together over 60 SHEETS, the most", () -> {
            RubberHall x = Check.hall("person sight 1 joint 99 touch 1 leans 0 wish 100;sitting far 999;law wish;");
            for (int i = 0; i < 60; i++) {
                x.tell(x.sheet(0, 0), 20, -999);
            }
            Check.due("60 by 1998", x.fails(0, 0), 60 * 1998);
        });
        Check.edge("Term SPANS FORETELL: SHOWN that differ the same way, either way round", () -> {
            fails(hall(house, "sheet 0 0 shown 1;sheet 1 0 shown 0;"), 0, 19 + 8, 1, 0, 0);
            fails(hall(house, "sheet 1 0 shown 0;sheet 0 0 shown 1;"), 0, 19 + 8, 1, 0, 0);
        });
        Check.edge("Term SPANS FORETELL: SHOWN that differ the other way, and not", () -> {
            fails(hall(house, "sheet 0 0 shown 0;sheet 1 0 shown 1;"), 0, 20 + 7, 0, 1, 0);
            fails(hall(house, "sheet 1 0 shown 1;sheet 0 0 shown 0;"), 0, 20 + 7, 0, 1, 0);
            fails(hall(house, "sheet 0 0 shown 5;sheet 1 0 shown 5;"), 0, 15 + 3, 0, 0, 1);
        });
        Check.edge("Term SPANS FORETELL: not of FORETOLD SHOWN that are like", () -> {
            fails(hall(house, "sheet 0 0 shown 0;sheet 0 0 shown 1;"), 0, 20 + 19, 0, 0, 0);
            fails(hall(house, "sheet 0 0 shown 0;sheet 1 0 shown 1;"), 1, 1, 0, 0, 0);
        });
        Check.edge("Term SPANS FORETELL: of the second SITTING, whatever START and SLOW", () -> {
            fails(hall(house, "sheet 0 1 shown 1;sheet 1 1 shown 0 start 7 slow 9;"), 0, 498 + 199, 1, 0, 0);
            fails(hall(house, "sheet 0 1 shown 1 start 7 slow 9;sheet 1 1 shown 2;"), 0, 498 + 197, 0, 1, 0);
        });
        Check.edge("Term SPANS FORETELL: not of two SITTINGS", () -> fails(hall(house, "sheet 0 0 shown 1;sheet 0 1 shown 0;"),
            0, 19 + 499, 0, 0, 0));
        Check.edge("Term SPANS FORETELL: not of SHEETS that are OFF", () -> {
            fails(hall(house, "sheet 0 0 shown 1;sheet 1 0 shown 900;"), 0, 19, 0, 0, 0);
            fails(hall(house, "sheet 0 0 shown 900;sheet 1 0 shown 1;"), 0, 7, 0, 0, 0);
        });
        Check.edge("Term SPANS FORETELL: each couple once, of 60 SHEETS", () -> {
            RubberHall x = Check.hall(house);
            for (int i = 0; i < 60; i++) {
                x.tell(x.sheet(i % 2, 0), 20, 1 - i % 2);
            }
            fails(x, 0, 30 * 19 + 30 * 8, 900, 0, 0);
        });
    }

    private static void apart(String sheets, int same, int other, int none) {
        RubberHall x = hall(MAN.repeat(2) + "sitting far1;sitting far2;line felt;line said;", sheets);
        int[] due = {same, other, none};
        for (int what = 0; what < 3; what++) {
            Check.due("apart(" + what + ") of " + sheets, x.apart(what), due[what]);
        }
    }

    private static void aparts() {
        Check.edge("Term APART: of none and of one SHEET no couples", () -> {
            apart("", 0, 0, 0);
            apart("sheet 0 0 6 shown 9;", 0, 0, 0);
        });
        Check.edge("Term APART: 'felt' and SHOWN that differ the same way, by one", () -> {
            apart("sheet 0 0 3 shown 1;sheet 0 0 2;", 1, 0, 0);
            apart("sheet 0 0 2 shown less 1;sheet 0 0 3;", 1, 0, 0);
        });
        Check.edge("Term APART: the other way, by one", () -> {
            apart("sheet 0 0 2 shown 1;sheet 0 0 3;", 0, 1, 0);
            apart("sheet 0 0 3;sheet 0 0 2 shown 1;", 0, 1, 0);
        });
        Check.edge("Term APART: else, if either differs not, or none", () -> {
            apart("sheet 0 0 3 shown 1;sheet 0 0 3;", 0, 0, 1);
            apart("sheet 0 0 4;sheet 0 0 3;", 0, 0, 1);
            apart("sheet 0 0;sheet 0 0;", 0, 0, 1);
        });
        Check.edge("Term APART: of any two PEOPLE and SITTINGS, 'said' for nothing", () -> {
            apart("sheet 0 0 3 0 shown 1;sheet 1 1 2 3;", 1, 0, 0);
        });
        Check.edge("Term APART: SHEETS that are OFF are of no couple", () -> {
            apart("sheet 0 0 3 shown 900;sheet 0 0 2;", 0, 0, 0);
            apart("sheet 0 0 3 shown 1;sheet 1 0 2 4;", 0, 0, 0);
        });
        Check.edge("Term APART: each couple once, of 60 SHEETS", () -> {
            RubberHall x = hall(MAN + "sitting far1;", "");
            Check.sheets(x, "sheet 0 0;".repeat(60));
            Check.due("apart(2)", x.apart(2), 1770);
        });
    }

    private static void beside(String sheets, int sum, int asGreat, int all) {
        RubberHall x = hall(MAN.repeat(2) + "sitting far1;sitting far2;line felt;line said;", sheets);
        int[] due = {sum, asGreat, all};
        for (int what = 0; what < 3; what++) {
            Check.due("beside(0, 1, 1, " + what + ") of " + sheets, x.beside(0, 1, 1, what), due[what]);
        }
    }

    /** So many SHEETS of each of two SITTINGS, with SHOWN from 0 on, and others that are OFF. */
    private static RubberHall twoRows(int first, int second) {
        RubberHall x = hall(MAN + "sitting far1;sitting far2;", "");
        for (int i = 0; i < first + second; i++) {
            x.tell(x.sheet(0, i < first ? 0 : 1), 20, i);
        }
        x.tell(x.sheet(0, 0), 20, 900);
        x.tell(x.sheet(0, 1), 20, 900);
        return x;
    }

    private static void besides() {
        Check.edge("Term BESIDE: none of both, none of one", () -> {
            beside("", 0, 1, 1);
            beside("sheet 0 1 shown 5;", 0, 1, 1);
            beside("sheet 0 0 shown 5;", 5, 1, 1);
            beside("sheet 0 0 shown less 5;sheet 0 0 shown 1;", -4, 1, 1);
        });
        Check.edge("Term WAYS: sums as great or greater", () -> {
            // of 1 2 beside 3 4 all; of 3 4 beside 1 2 one; of 2 3 beside 2 3: once 4, four times 5, once 6
            beside("sheet 0 0 shown 1;sheet 0 0 shown 2;sheet 0 1 shown 3;sheet 0 1 shown 4;", 3, 6, 6);
            beside("sheet 0 0 shown 3;sheet 0 0 shown 4;sheet 0 1 shown 1;sheet 0 1 shown 2;", 7, 1, 6);
            beside("sheet 0 0 shown 2;sheet 0 0 shown 3;sheet 0 1 shown 2;sheet 0 1 shown 3;", 5, 5, 6);
            beside("sheet 0 0 shown 5;sheet 0 1 shown 4;", 5, 1, 2);
            beside("sheet 0 0 shown 5;sheet 0 1 shown 5;", 5, 2, 2);
            beside("sheet 0 0 shown 5;sheet 0 1 shown 6;", 5, 2, 2);
            beside("sheet 0 0 shown less 5;sheet 0 1 shown less 6;", -5, 1, 2);
        });
        Check.edge("Term BESIDE: SHEETS that are OFF count for nothing", () -> {
            beside("sheet 0 0 shown 5;sheet 0 0 shown 900;sheet 0 1 shown 6;sheet 0 1 shown 900;", 5, 2, 2);
            beside("sheet 0 0 shown 5;sheet 1 0 3 4 shown 7;sheet 0 1 shown 4;", 5, 1, 2);
        });
        Check.edge("Term WAYS: all ways of each number up to 10 of each", () -> {
            int[][] ways = new int[21][21];
            for (int n = 0; n <= 20; n++) {
                for (int k = 0; k <= n; k++) {
                    ways[n][k] = k == 0 || k == n ? 1 : ways[n - 1][k - 1] + ways[n - 1][k];
                }
            }
            for (int first = 0; first <= 10; first++) {
                for (int second = 0; second <= 10; second++) {
                    RubberHall x = twoRows(first, second);
                    Check.due(first + " beside " + second, x.beside(0, 1, 1, 2), ways[first + second][first]);
                    // those of the first are the least of all, those of the second the greatest
                    Check.due("as great", x.beside(0, 1, 1, 1), ways[first + second][first]);
                    Check.due("as great the other way round", x.beside(1, 0, 1, 1), 1);
                    Check.due("of like numbers", x.beside(1, 0, 2, 1), ways[first + second][first]);
                }
            }
        });
        Check.edge("Term BESIDE: 10 of each at most", () -> {
            RubberHall x = twoRows(10, 10);
            Check.due("the sum", x.beside(0, 1, 1, 0), 45);
            Check.due("the sum of the other", x.beside(1, 0, 1, 0), 145);
            Check.due("all ways", x.beside(0, 1, 1, 2), 184756);
        });
        Check.edge("Term BESIDE: 11 of either are too many", () -> {
            for (int[] of : new int[][] {{11, 0}, {0, 11}, {11, 10}, {10, 11}, {11, 11}, {40, 3}}) {
                RubberHall x = twoRows(of[0], of[1]);
                for (int number = 0; number < 4; number++) {
                    for (int what = 0; what < 3; what++) {
                        Check.due(of[0] + " beside " + of[1], x.beside(0, 1, number, what), NONE);
                        Check.due(of[1] + " beside " + of[0], x.beside(1, 0, number, what), NONE);
                    }
                }
            }
        });
        Check.edge("Term BESIDE: by 'felt', SHOWN, START, SLOW, at their bounds", () -> {
            RubberHall x = hall(MAN + "sitting far1;sitting far2;" + "line felt;".repeat(11) + "line said;", "sheet 0 0"
                + " 6".repeat(11) + " 3 shown 999 start 100 slow 601;sheet 0 1" + " 0".repeat(11) + " 3 shown less 999;");
            int[] first = {33, 999, 100, 601};
            int[] other = {-33, -999, 0, 0};
            for (int number = 0; number < 4; number++) {
                Check.due("the sum by " + number, x.beside(0, 1, number, 0), first[number]);
                Check.due("as great by " + number, x.beside(0, 1, number, 1), 1);
                Check.due("the other sum by " + number, x.beside(1, 0, number, 0), other[number]);
                Check.due("as great by " + number, x.beside(1, 0, number, 1), 2);
            }
        });
    }

    private static void wished(String house, String sheets, int couples, int asGreat) {
        RubberHall x = hall(MAN.repeat(2) + house + "line felt;line said;", sheets);
        Check.due("wished(0) of " + sheets, x.wished(0), couples);
        Check.due("wished(1) of " + sheets, x.wished(1), asGreat);
    }

    private static void wishes() {
        String two = "sitting far 9 late 8 turned top told strokes 1;sitting far 9 late 8 turned top strokes 2;";
        String one = "sheet 0 0 3;sheet 0 1 3;";
        Check.edge("Term WISHED: no couple of none, of one SHEET", () -> {
            wished(two, "", 0, 0);
            wished(two, "sheet 0 0;", 0, 0);
            wished(two, "sheet 0 1;", 0, 0);
        });
        Check.edge("Term WISHED: 'felt' of the TOLD one less, as great, greater", () -> {
            wished(two, "sheet 0 0 2;sheet 0 1 3;", 1, 0);
            wished(two, one, 1, 1);
            wished(two, "sheet 0 0 4;sheet 0 1 3;", 1, 1);
            wished(two, "sheet 0 1 4;sheet 0 0 3;", 1, 0);
        });
        Check.edge("Term WISHED: of like FAR", () -> {
            wished("sitting far 9 told;sitting far 8;", one, 0, 0);
            wished("sitting far 9 told;sitting far 10;", one, 0, 0);
            wished("sitting far 9 told;sitting far 9;", one, 1, 1);
        });
        Check.edge("Term WISHED: of like LATE", () -> {
            wished("sitting far 9 told;sitting far 9 late 1;", one, 0, 0);
            wished("sitting far 9 late 1 told;sitting far 9 late 1;", one, 1, 1);
        });
        Check.edge("Term WISHED: of like WAY", () -> {
            wished("sitting far 9 told;sitting far 9 turned;", one, 0, 0);
            wished("sitting far 9 turned told;sitting far 9 aside;", one, 0, 0);
            wished("sitting far 9 aside told;sitting far 9 aside;", one, 1, 1);
        });
        Check.edge("Term WISHED: of like THING", () -> {
            wished("sitting far 9 told;sitting far 9 stick;", one, 0, 0);
            wished("sitting far 9 stick told;sitting far 9 top;", one, 0, 0);
            wished("sitting far 9 top told;sitting far 9 top;", one, 1, 1);
        });
        Check.edge("Term WISHED: STROKES may be unlike", () -> wished("sitting far 9 told strokes 1;sitting far 9 strokes 600;",
            one, 1, 1));
        Check.edge("Term WISHED: of one PERSON, the first or another", () -> {
            wished(two, "sheet 0 0 3;sheet 1 1 3;", 0, 0);
            wished(two, "sheet 1 0 3;sheet 0 1 3;", 0, 0);
            wished(two, "sheet 1 0 3 shown 7 start 8 slow 9;sheet 1 1 3;", 1, 1);
        });
        Check.edge("Term WISHED: of two TOLD SITTINGS, of two that aren't, of one no couple", () -> {
            wished("sitting far 9 told;sitting far 9 told;", one, 0, 0);
            wished("sitting far 9;sitting far 9;", one, 0, 0);
            wished(two, "sheet 0 0 3;sheet 0 0 3;", 0, 0);
            wished(two, "sheet 0 1 3;sheet 0 1 3;", 0, 0);
        });
        Check.edge("Term WISHED: both of which COUNT", () -> {
            wished(two, "sheet 0 0 3 3 shown 900;sheet 0 1 3;", 0, 0);
            wished(two, "sheet 0 0 3;sheet 0 1 3 3 shown 900;", 0, 0);
            wished(two, "sheet 0 0 3 4;sheet 0 1 3;", 0, 0);
        });
        Check.edge("Term WISHED: each with each, 30 by 30", () -> {
            RubberHall x = hall(MAN + two + "line felt;", "");
            for (int i = 0; i < 60; i++) {
                x.sheet(0, i % 2);
            }
            Check.due("wished(0)", x.wished(0), 900);
            Check.due("wished(1)", x.wished(1), 900);
            x.tell(0, 0, -1);
            x.tell(1, 0, 1);
            Check.due("wished(0)", x.wished(0), 900);
            Check.due("one less of the TOLD, one greater of the other", x.wished(1), 900 - 30 - 29);
        });
    }

    private static void slope(String sittings, String sheets, int what, int due) {
        RubberHall x = hall(MAN + sittings, sheets);
        Check.due("slope(" + what + ") of " + sheets, x.slope(what), due);
    }

    private static void noSlope(String sittings, String sheets) {
        RubberHall x = hall(MAN + sittings, sheets);
        Check.illegal("slope(0) of " + sheets, () -> x.slope(0));
        Check.illegal("slope(1) of " + sheets, () -> x.slope(1));
    }

    private static void slopes() {
        String far = "sitting far 0;sitting far 3;sitting far 999;";
        Check.edge("Term SLOPE: none of no SHEET, of one, of one FAR and LATE", () -> {
            noSlope(far, "");
            noSlope(far, "sheet 0 1 shown 5;");
            noSlope(far, "sheet 0 1 shown 5;sheet 0 1 shown 9;");
            noSlope("sitting far 7 late 5;sitting far 7 late 5 turned;", "sheet 0 0 shown 5;sheet 0 1 shown 9;");
        });
        Check.edge("Term SLOPE: none, if but one of two FAR COUNTS", () -> noSlope(far, "sheet 0 0 shown 5;sheet 0 1 shown 900;"));
        Check.edge("Term SLOPE: by FAR there is one, where by LATE there is none, and the other way round", () -> {
            RubberHall x = hall(MAN + far, "sheet 0 0;sheet 0 1 shown 3;");
            Check.due("by FAR", x.slope(0), 1000);
            Check.illegal("by LATE", () -> x.slope(1));
            RubberHall y = hall(MAN + "sitting far 7;sitting far 7 late 2;", "sheet 0 0;sheet 0 1 shown 3;");
            Check.due("by LATE", y.slope(1), 1500);
            Check.illegal("by FAR", () -> y.slope(0));
        });
        Check.edge("Term SLOPE: cut down towards less, above 0, at 0, below 0", () -> {
            slope(far, "sheet 0 0;sheet 0 1 shown 1;", 0, 333);
            slope(far, "sheet 0 0;sheet 0 1;", 0, 0);
            slope(far, "sheet 0 0 shown 1;sheet 0 1;", 0, -334);
            // exactly
            slope(far, "sheet 0 0 shown 3;sheet 0 1;", 0, -1000);
            slope("sitting far 0;sitting far 0 late 2000;", "sheet 0 0;sheet 0 1 shown 1;", 1, 0);
            slope("sitting far 0;sitting far 0 late 2000;", "sheet 0 0 shown 1;sheet 0 1;", 1, -1);
        });
        Check.edge("Term SLOPE: at the bounds of FAR, LATE and SHOWN", () -> {
            slope(far, "sheet 0 0 shown less 999;sheet 0 2 shown 999;", 0, 2000);
            slope(far, "sheet 0 0 shown 999;sheet 0 2 shown less 999;", 0, -2000);
            slope("sitting far 0;sitting far 1;", "sheet 0 0 shown less 999;sheet 0 1 shown 999;", 0, 1998000);
            slope("sitting far 0 late 1999;sitting far 0 late 2000;", "sheet 0 0 shown 999;sheet 0 1 shown less 999;", 1,
                -1998000);
        });
        Check.edge("Term SLOPE: of 60 SHEETS, the most", () -> {
            RubberHall x = Check.hall(MAN + "sitting far 998;sitting far 999;");
            for (int i = 0; i < 60; i++) {
                x.tell(x.sheet(0, i % 2), 20, i % 2 == 0 ? -999 : 999);
            }
            Check.due("slope(0)", x.slope(0), 1998000);
        });
    }

    private static void shares() {
        String house = MAN + "sitting far 1;sitting far 1 turned stick;sitting far 1 aside top;";
        Check.edge("Term SHARE: of one SHEET its SHOWN, by each THING and WAY", () -> {
            for (int i = 0; i < 3; i++) {
                RubberHall x = hall(house, "sheet 0 " + i + " shown 999;");
                for (int what = 0; what < 6; what++) {
                    int w = what;
                    if (what % 3 == i) {
                        Check.due("share(" + what + ")", x.share(what), 999);
                    } else {
                        Check.illegal("share(" + what + ")", () -> x.share(w));
                    }
                }
            }
        });
        Check.edge("Term SHARE: cut down towards less, above 0, at 0, below 0", () -> {
            String[] sheets = {"sheet 0 0 shown 3;sheet 0 0 shown 4;", "sheet 0 0;sheet 0 0 shown 1;",
                "sheet 0 0 shown less 1;sheet 0 0 shown 1;", "sheet 0 0 shown less 1;sheet 0 0;",
                "sheet 0 0 shown less 3;sheet 0 0 shown less 4;", "sheet 0 0 shown less 3;sheet 0 0 shown less 5;"};
            int[] due = {3, 0, 0, -1, -4, -4};
            for (int i = 0; i < sheets.length; i++) {
                Check.due("share(0) of " + sheets[i], hall(house, sheets[i]).share(0), due[i]);
                Check.due("share(3) of " + sheets[i], hall(house, sheets[i]).share(3), due[i]);
            }
        });
        Check.edge("Term SHARE: SHEETS that are OFF are none", () -> {
            RubberHall x = hall(house, "sheet 0 0 shown 900;");
            Check.illegal("share(0)", () -> x.share(0));
            Check.illegal("share(3)", () -> x.share(3));
        });
        Check.edge("Term SHARE: of 60 SHEETS, the most", () -> {
            RubberHall x = Check.hall(house);
            for (int i = 0; i < 60; i++) {
                x.tell(x.sheet(0, 0), 20, -999);
            }
            Check.due("share(0)", x.share(0), -999);
        });
    }

    private static void parts(String house, int due) {
        Check.due("parts(0) of " + house, Check.hall(house + "sitting far 999;").parts(0), due);
    }

    private static void partings() {
        // by SPANS 499, by WISH of 100 999, of none 0
        Check.edge("Term PARTS: 0 with no LAW and with one", () -> {
            parts(MAN, 0);
            parts(MAN + "law spans;", 0);
        });
        Check.edge("Term PARTS: of two LAWS, over no PEOPLE 0, over one, over 20", () -> {
            parts("law spans;law wish;", 0);
            parts(MAN + "law spans;law wish;", 499);
            parts(MAN + "law wish;law spans;", 499);
            parts(MAN.repeat(20) + "law wish;law spans;", 9980);
        });
        Check.edge("Term PARTS: the least by which any two LAWS differ", () -> {
            // ODDS: 0 of LEANS 0
            parts(MAN + "law spans;law wish;law odds;", 0);
            parts(MAN + "law spans;law wish;law spans;", 0);
            parts("person sight1joint1touch1leans0wish 40;law spans;law wish;law odds;", 100);
            parts("person sight1joint1touch1leans0wish 40;law odds;law spans;law wish;", 100);
            parts("person sight1joint1touch1leans0wish 60;law wish;law odds;law spans;", 100);
            parts("person sight1joint1touch1leans0wish 20;law wish;law odds;law spans;", 199);
            parts(MAN + "law spans;law spans;law wish;law wish;law spans;law wish;", 0);
        });
        Check.edge("Term PARTS: over PEOPLE that are unlike, each by itself", () -> {
            // by SPANS 499, 998, 0; by WISH 999, 0, 99; by ODDS of LEANS 0, 1000, 0 0, 998, 0
            String people = "person sight1joint1touch1leans0wish 100;person sight1joint99touch1leans1000;"
                + "person sight99joint1touch1leans0wish 10;";
            parts(people + "law spans;law wish;", 500 + 998 + 99);
            parts(people + "law wish;law odds;", 999 + 998 + 99);
            parts(people + "law wish;law spans;law odds;", 499);
            parts(people + "law odds;law wish;law spans;law wish;law odds;law spans;", 0);
        });
        Check.edge("Term PARTS: over 20 PEOPLE, by 5 LAWS", () -> {
            String people = MAN.repeat(19) + "person sight1joint3touch1leans0;";
            RubberHall x = Check.hall(people + "sitting far9;law wish;law spans;");
            // by SPANS 4 of each and 8 of the last
            Check.due("parts(0) by 2 LAWS", x.parts(0), 19 * 4 + 8);
            RubberHall y = Check.hall(people + "law wish;law wish;law wish;law wish;sitting far9;");
            Check.due("parts(0) by 4 LAWS", y.parts(0), 0);
        });
        Check.edge("Term PARTS: of SHOWN, whatever SHEETS there are", () -> {
            RubberHall x = Check.hall(MAN + "law spans;law wish;sitting far 999;off 1;");
            x.sheet(0, 0);
            Check.due("parts(0)", x.parts(0), 499);
        });
        Check.edge("Term NEXT: none without SITTINGS, the one of one", () -> {
            Check.due("without", Check.hall(MAN + "law spans;law wish;").next(), NONE);
            Check.due("of one", Check.hall(MAN + "law spans;law wish;sitting far 0;").next(), 0);
            Check.due("without LAWS", Check.hall(MAN + "sitting far 5;sitting far 9;").next(), 0);
        });
        Check.edge("Term NEXT: the one that PARTS most, of like ones the least", () -> {
            String two = MAN + "law spans;law wish;";
            Check.due("the first", Check.hall(two + "sitting far 9;sitting far 5;").next(), 0);
            Check.due("the last", Check.hall(two + "sitting far 5;".repeat(19) + "sitting far 9;").next(), 19);
            Check.due("the second of three", Check.hall(two + "sitting far 5;sitting far 9;sitting far 9;").next(), 1);
            // both PART by 2
            Check.due("of like ones", Check.hall(two + "sitting far 4;sitting far 5;").next(), 0);
            Check.due("of 20 like ones", Check.hall(two + "sitting far 5;".repeat(20)).next(), 0);
        });
    }

    public static void main(String[] args) {
        counts();
        credits();
        failures();
        aparts();
        besides();
        wishes();
        slopes();
        shares();
        partings();
        Check.end("EdgesOfFindingsTest");
    }
}
