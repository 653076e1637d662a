/** Promises 19 to 28, 31 and 32: what is found in SHEETS that COUNT, and of the LAWS. */
public final class FindingsTest {
    private static final String MAN = "person sight 10 joint 20 touch 100 leans 500;";

    private static void credits() {
        RubberHall x = Check.hall(MAN + "sitting far 30 strokes 2;law odds two 1000;law spans;law wish;line felt;line said;"
            + "off shown=900;");
        Check.due("credit at first", x.credit(0), 333333);
        Check.sheets(x, "sheet 0 0 5 0 shown 7 start 33;sheet 0 0 0 0 shown 900;sheet 0 0 5 0 shown 7 start 33;");
        // the FITs of such a sheet are 200000, 9744, 10242
        Check.due("credit of odds", x.credit(0), 995028);
        Check.due("credit of spans", x.credit(1), 2361);
        Check.due("credit of wish", x.credit(2), 2609);
        Check.none("credit of no law", () -> x.credit(3));
        Check.none("credit of law -1", () -> x.credit(-1));
        Check.none("credit without laws", () -> new RubberHall().credit(0));
        RubberHall y = Check.hall("law odds;".repeat(6));
        Check.due("like shares, cut down", y.credit(5), 166666);
    }

    private static void leastFits() {
        RubberHall x = Check.hall(MAN + "sitting far 100;law spans;law wish;" + "line felt;".repeat(12));
        // SHOWN and START are 40 and 50 from what both foretell; each answer is 5 from that of spans, 1 from that of wish
        Check.sheets(x, "sheet 0 0 1 1 1 1 1 1 1 1 1 1 1 1 shown 40 start 50;");
        Check.due("a FIT of 1 at least", x.credit(0), 1919);
        RubberHall y = Check.hall(MAN + "sitting far 100;law spans spread 1;law spans;");
        Check.sheets(y, "sheet 0 0 start 100;");
        // a factor of 1 at least leaves 1000, 58 leave 58000
        Check.due("a factor of 1 at least", y.credit(0), 16949);
    }

    private static void fails() {
        RubberHall x = Check.hall(MAN + "person sight 20 joint 10 touch 100 leans 500;" + MAN
            + "sitting far 100;sitting far 200;law spans;law wish;off shown=900;");
        // FORETOLD by spans 80, 20, 80 in the first sitting, 160, 40, 160 in the second
        Check.sheets(x, "sheet 0 0 shown 70;sheet 1 0 shown 30;sheet 2 0 shown 30;sheet 0 1 shown less 5;sheet 1 1 shown 900;"
            + "sheet 2 1 shown 160;sheet 1 1 shown 160;sheet 1 1 shown 0;");
        Check.due("fails of spans", x.fails(0, 0), 10 + 10 + 50 + 165 + 0 + 120 + 40);
        Check.due("fails of wish", x.fails(1, 0), 70 + 30 + 30 + 5 + 160 + 160);
        // 0-1 same, 0-2 alike, 1-2 not; of the second 3-6 other, 3-7 other, 5-6 not, 5-7 same; 3-5, 6-7 alike
        Check.due("the same way", x.fails(0, 1), 2);
        Check.due("the other way", x.fails(0, 2), 2);
        Check.due("not", x.fails(0, 3), 2);
        Check.due("wish foretells none", x.fails(1, 1) + x.fails(1, 2) + x.fails(1, 3), 0);
        Check.none("fails of no law", () -> x.fails(2, 0));
        Check.none("fails of law -1", () -> x.fails(-1, 0));
        Check.none("fails of what 4", () -> x.fails(0, 4));
        Check.none("fails of what -1", () -> x.fails(0, -1));
    }

    private static void apart() {
        RubberHall x = Check.hall(MAN + "sitting far 1;sitting far 2;line felt;line said;off shown=900;");
        Check.due("apart of none", x.apart(0) + x.apart(1) + x.apart(2), 0);
        Check.sheets(x, "sheet 0 0 5 2 shown 10;sheet 0 1 4 2 shown 5;sheet 0 0 6 2 shown 7;sheet 0 0 5 2 shown 3;"
            + "sheet 0 0 3 2 shown 10;sheet 0 0 0 2 shown 900;");
        // 0-1 same, 0-2 other, 0-3 like felt, 0-4 like shown, 1-2 same, 1-3 other, 1-4 other, 2-3 same, 2-4 other, 3-4 other
        Check.due("the same way", x.apart(0), 3);
        Check.due("the other way", x.apart(1), 5);
        Check.due("else", x.apart(2), 2);
        Check.none("apart(3)", () -> x.apart(3));
        Check.none("apart(-1)", () -> x.apart(-1));
    }

    private static void beside() {
        RubberHall x = Check.hall(MAN + "sitting far 1;sitting far 2;sitting far 3;line felt;line said;off shown=900;");
        Check.sheets(x, "sheet 0 0 5 3 shown 10 start 4 slow 1;sheet 0 1 4 3 shown 5 start 4 slow 2;"
            + "sheet 0 0 6 3 shown less 7 start 5;sheet 0 1 3 2 shown 900;sheet 0 1 2 3 shown 4 slow 600;");
        // of 'felt' 2 3 beside 1 -1; SHOWN 10 -7 beside 5 4; START 4 5 beside 4 0; SLOW 1 0 beside 2 600
        int[][] due = {{5, 1, 6}, {3, 4, 6}, {9, 2, 6}, {1, 6, 6}};
        for (int number = 0; number < 4; number++) {
            for (int what = 0; what < 3; what++) {
                Check.due("beside(0, 1, " + number + ", " + what + ")", x.beside(0, 1, number, what), due[number][what]);
            }
        }
        Check.due("the other way round", x.beside(1, 0, 1, 0), 9);
        Check.due("ways the other way round", x.beside(1, 0, 1, 1), 3);
        Check.due("none beside some", x.beside(2, 0, 1, 0), 0);
        Check.due("one way to choose none", x.beside(2, 0, 1, 1), 1);
        Check.due("all ways to choose none", x.beside(2, 0, 1, 2), 1);
        Check.due("all ways to choose all", x.beside(0, 2, 1, 2), 1);
        Check.due("one and the same", x.beside(1, 1, 0, 0), RubberHall.NONE);
        Check.none("no sitting", () -> x.beside(3, 0, 0, 0));
        Check.none("no other", () -> x.beside(0, 3, 0, 0));
        Check.none("no number", () -> x.beside(0, 0, 4, 0));
        Check.none("number -1", () -> x.beside(0, 0, -1, 0));
        Check.none("no what", () -> x.beside(0, 0, 0, 3));
        Check.none("what -1", () -> x.beside(0, 0, 0, -1));
    }

    private static void besideMany() {
        RubberHall x = Check.hall(MAN + "sitting far 1;sitting far 2;off shown=900;");
        for (int i = 0; i < 10; i++) {
            x.tell(x.sheet(0, 0), 20, 3 * i);
            x.tell(x.sheet(0, 1), 20, 29 - 3 * i);
        }
        x.tell(x.sheet(0, 0), 20, 900);
        x.tell(x.sheet(0, 1), 20, 900);
        Check.due("a sum of ten", x.beside(0, 1, 1, 0), 135);
        Check.due("all ways to part twenty", x.beside(0, 1, 1, 2), 184756);
        Check.due("ways of all like numbers", x.beside(0, 1, 2, 1), 184756);
        int low = x.beside(0, 1, 1, 1);
        int high = x.beside(1, 0, 1, 1);
        // each way to choose ten leaves ten, whose sum is 290 less that: 155 or more is 135 or less
        int between = 0;
        for (int mask = 0; mask < 1 << 20; mask++) {
            if (Integer.bitCount(mask) == 10) {
                int sum = 0;
                for (int i = 0; i < 10; i++) {
                    sum += (mask >> i & 1) * 3 * i + (mask >> 10 + i & 1) * (29 - 3 * i);
                }
                between += sum == 135 ? 1 : 0;
            }
        }
        Check.due("ways", low, 184756 - high + between);
        x.sheet(0, 0);
        Check.due("eleven of the first", x.beside(0, 1, 1, 2), RubberHall.NONE);
        Check.due("eleven of the other", x.beside(1, 0, 1, 0), RubberHall.NONE);
    }

    private static void wished() {
        RubberHall x = Check.hall(MAN + MAN + "sitting far 60 late 5 turned top told strokes 1;sitting far 60 late 5 turned top;"
            + "sitting far 61 late 5 turned top;sitting far 60 late 6 turned top;sitting far 60 late 5 aside top;"
            + "sitting far 60 late 5 turned stick;line felt;line said;off shown=900;");
        Check.due("no couples", x.wished(0), 0);
        Check.sheets(x, "sheet 0 0 4 1;sheet 0 1 4 3;sheet 0 1 5;sheet 0 1 3;sheet 1 1 3;sheet 0 2;sheet 0 3;sheet 0 4;sheet 0 5;"
            + "sheet 0 1 3 shown 900;sheet 1 0 6 shown 900;sheet 0 0 0 1;");
        Check.due("couples", x.wished(0), 6);
        Check.due("as great or greater", x.wished(1), 2);
        Check.none("wished(2)", () -> x.wished(2));
        Check.none("wished(-1)", () -> x.wished(-1));
    }

    private static void wishedOfTwoTold() {
        RubberHall x = Check.hall(MAN + "sitting far 9 told;sitting far 9 told strokes 1;sitting far 9;line felt;");
        Check.sheets(x, "sheet 0 0 5;sheet 0 1 5;");
        Check.due("two told ones are no couple", x.wished(0), 0);
        Check.due("nor as great or greater", x.wished(1), 0);
        Check.sheets(x, "sheet 0 2 5;sheet 0 2 6;sheet 0 0 6;");
        Check.due("each told one with each that isn't", x.wished(0), 6);
        Check.due("those as great or greater", x.wished(1), 4);
    }

    private static void slopes() {
        RubberHall x = Check.hall(MAN + "sitting far 30 late 100;sitting far 60 late 100;sitting far 90 late 2000;off shown=900;");
        Check.illegal("slope of none", () -> x.slope(0));
        Check.sheets(x, "sheet 0 0 shown 10;sheet 0 0 shown 30;sheet 0 1 shown less 5;sheet 0 2 shown 900;");
        Check.due("slope by far", x.slope(0), -834);
        Check.illegal("slope by one late", () -> x.slope(1));
        Check.sheets(x, "sheet 0 2 shown 10;");
        // n 4, x 210, y 45, x x 13500, x y 1800: less 2250 by 1000 by 9900
        Check.due("slope by far", x.slope(0), -228);
        // x 2300, y 45, x x 4030000, x y 23500: less 9500 by 1000 by 10830000
        Check.due("slope by late", x.slope(1), -1);
        x.tell(4, 20, 45);
        // y 80, x y 93500: 190000 by 1000 by 10830000
        Check.due("slope by late above 0", x.slope(1), 17);
        Check.none("slope(2)", () -> x.slope(2));
        Check.none("slope(-1)", () -> x.slope(-1));
        Check.none("slope(2) of none", () -> new RubberHall().slope(2));
    }

    private static void shares() {
        RubberHall x = Check.hall(MAN + "sitting far 1;sitting far 1 turned stick;sitting far 1 aside top;sitting far 1 stick;"
            + "off shown=900;");
        for (int what = 0; what < 6; what++) {
            int w = what;
            Check.illegal("share(" + w + ") of none", () -> x.share(w));
        }
        Check.sheets(x, "sheet 0 0 shown 7;sheet 0 0 shown 8;sheet 0 1 shown less 3;sheet 0 1 shown less 4;"
            + "sheet 0 3 shown 900;sheet 0 2 shown 900;sheet 0 3 shown 20;");
        Check.due("share of hands", x.share(0), 7);
        Check.due("share of sticks", x.share(1), 4);
        Check.illegal("share of tops", () -> x.share(2));
        Check.due("share right way round", x.share(3), 11);
        Check.due("share turned, towards less", x.share(4), -4);
        Check.illegal("share aside", () -> x.share(5));
        Check.none("share(6)", () -> x.share(6));
        Check.none("share(-1)", () -> x.share(-1));
    }

    private static void parts() {
        RubberHall x = Check.hall("person sight 10 joint 20 touch 1 leans 500 wish 50;"
            + "person sight 20 joint 10 touch 1 leans 500 wish 50;sitting far 100;sitting far 300;sitting far 0;sitting far 300;"
            + "law spans;");
        Check.due("fewer than two laws", x.parts(1), 0);
        Check.due("the first of like ones", x.next(), 0);
        Check.none("no sitting", () -> x.parts(4));
        Check.none("sitting -1", () -> x.parts(-1));
        Check.house(x, "person sight 10 joint 20 touch 1 leans 500 wish 50;"
            + "person sight 20 joint 10 touch 1 leans 500 wish 50;sitting far 100;sitting far 300;sitting far 0;sitting far 300;"
            + "law spans;law wish;");
        // by spans 80 and 20, by wish 50 and 50
        Check.due("parts", x.parts(0), 60);
        Check.due("parts more", x.parts(1), 180);
        Check.due("parts nothing", x.parts(2), 0);
        Check.due("next", x.next(), 1);
        Check.house(x, MAN + "sitting far 30 strokes 2;law odds two 1000;law spans;law wish;");
        Check.due("the least of any two", x.parts(0), 7);
        Check.house(x, MAN + "law spans;law wish;");
        Check.due("no sittings", x.next(), RubberHall.NONE);
    }

    private static void looked() {
        RubberHall x = new RubberHall();
        Check.due("looked(1, 1, 50)", x.looked(1, 1, 50), 500000);
        Check.due("looked(2, 1, 50)", x.looked(2, 1, 50), 750000);
        Check.due("looked(2, 2, 50)", x.looked(2, 2, 50), 250000);
        Check.due("looked(2, 1, 33)", x.looked(2, 1, 33), 442200 + 108900);
        Check.due("looked(3, 2, 33)", x.looked(3, 2, 33), 254826);
        Check.due("looked(40, 0, 33), all cut down", x.looked(40, 0, 33), 999671);
        Check.due("looked(40, 40, 99)", x.looked(40, 40, 99), 668956);
        Check.due("looked(40, 1, 1)", x.looked(40, 1, 1), 330936);
        Check.due("looked(1, 0, 0)", x.looked(1, 0, 0), 1000000);
        Check.due("looked(3, 3, 100)", x.looked(3, 3, 100), 1000000);
        Check.due("looked(3, 1, 0)", x.looked(3, 1, 0), 0);
        int[][] refused = {{0, 0, 5}, {41, 0, 5}, {-1, 0, 5}, {5, 6, 5}, {5, -1, 5}, {5, 5, 101}, {5, 5, -1},
            {Integer.MAX_VALUE, 0, 5}, {5, Integer.MIN_VALUE, 5}};
        for (int[] r : refused) {
            Check.illegal("looked(" + r[0] + ", " + r[1] + ", " + r[2] + ")", () -> x.looked(r[0], r[1], r[2]));
        }
    }

    private static void spans() {
        RubberHall x = Check.hall(MAN + MAN + "sitting far 100;sitting far 999;law spans;law wish;law odds two 1000;off shown=900;");
        Check.due("no such sheets", x.spans(0, 0, 0), RubberHall.NONE);
        Check.due("no such sheets", x.spans(0, 0, 2), RubberHall.NONE);
        Check.sheets(x, "sheet 1 0 shown 50;sheet 0 0 shown 900;");
        Check.due("none that counts", x.spans(0, 0, 1), RubberHall.NONE);
        // of like ones the least SIGHT, then JOINT: half the way by any like two
        Check.due("sight", x.spans(0, 1, 0), 5);
        Check.due("joint", x.spans(0, 1, 1), 5);
        Check.due("what differs", x.spans(0, 1, 2), 0);
        // 100 by 15 15 by (15 15 and 5 5) is 90
        x.tell(0, 20, 90);
        Check.due("sight of 90", x.spans(0, 1, 0), 5);
        Check.due("joint of 90", x.spans(0, 1, 1), 15);
        Check.due("what differs of 90", x.spans(0, 1, 2), 0);
        // 5 5 by (5 5 and 15 15)
        x.tell(0, 20, 10);
        Check.due("sight of 10", x.spans(0, 1, 0), 15);
        Check.due("joint of 10", x.spans(0, 1, 1), 5);
        Check.due("by wish all are alike", x.spans(1, 1, 0) + x.spans(1, 1, 1), 10);
        Check.due("what differs by wish", x.spans(1, 1, 2), 10);
        // the nearest is 95 95 by (95 95 and 5 5), 996.2
        x.tell(x.sheet(1, 1), 20, 999);
        x.tell(0, 20, 99);
        Check.due("two sheets: sight", x.spans(0, 1, 0), 5);
        Check.due("two sheets: joint", x.spans(0, 1, 1), 95);
        Check.due("two sheets: what differs", x.spans(0, 1, 2), 3);
        RubberHall y = Check.hall(MAN + "person sight 10 joint 20 touch 100 leans 1000;sitting far 999;law odds two 1000;law odds;");
        // 999 by 5 5 by (5 5 and 95 95) is 2.76, by 85 85 it is 3.4; who leans to one cause wholly is never pulled from it
        y.tell(y.sheet(1, 0), 20, 2);
        Check.due("sight of 2", y.spans(0, 1, 0), 95);
        Check.due("joint of 2", y.spans(0, 1, 1), 5);
        Check.due("what differs of 2", y.spans(0, 1, 2), 0);
        Check.none("spans of no law", () -> x.spans(3, 0, 0));
        Check.none("spans of no person", () -> x.spans(0, 2, 0));
        Check.none("spans of what 3", () -> x.spans(0, 0, 3));
        Check.none("spans of what -1", () -> x.spans(0, 0, -1));
        Check.due("the person stays", x.person(1, 0), 10);
    }

    private static void colds() {
        RubberHall x = Check.hall(MAN.repeat(5) + "sitting far 1;off shown=900;");
        Check.due("cold of none", x.cold(0) + x.cold(1) + x.cold(2) + x.cold(3), 0);
        // 0 finds and finds, 1 finds and doesn't, 2 doesn't and finds, 3 finds once, 4 finds only where it is off
        Check.sheets(x, "sheet 0 0 cold less 2;sheet 1 0 cold less 50;sheet 2 0 cold less 1;sheet 3 0 cold less 2;sheet 0 0;"
            + "sheet 4 0 shown 900 cold less 9;"
            + "sheet 0 0 cold less 3;sheet 1 0 cold less 1;sheet 2 0 cold less 5;sheet 3 0;sheet 4 0 cold 0;sheet 4 0 cold less 4;"
            + "sheet 1 0 cold less 5;");
        Check.due("looked for", x.cold(0), 10);
        Check.due("found", x.cold(1), 7);
        Check.due("people who could", x.cold(2), 2);
        Check.due("people who did", x.cold(3), 1);
        Check.none("cold(4)", () -> x.cold(4));
        Check.none("cold(-1)", () -> x.cold(-1));
    }

    public static void main(String[] args) {
        credits();
        leastFits();
        fails();
        apart();
        beside();
        besideMany();
        wished();
        wishedOfTwoTold();
        slopes();
        shares();
        parts();
        looked();
        spans();
        colds();
        Check.end("FindingsTest");
    }
}
