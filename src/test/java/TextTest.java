/** Promises 1 to 5: a new object, the tape, the TEXTS and their FAULTS. */
public final class TextTest {
    private static final String PERSON = "person sight1joint1touch1leans0;";

    private static void newObject() {
        RubberHall x = new RubberHall();
        for (int what = 0; what <= 10; what++) {
            Check.due("count(" + what + ") of a new object", x.count(what), 0);
        }
        Check.due("fault of a new object", x.fault(), RubberHall.NONE);
        Check.due("next of a new object", x.next(), RubberHall.NONE);
        Check.due("restore of a new object", x.restore(), false);
        Check.none("person of a new object", () -> x.person(0, 0));
        Check.none("sitting of a new object", () -> x.sitting(0, 0));
        Check.none("law of a new object", () -> x.law(0, 0));
        Check.none("isSaid of a new object", () -> x.isSaid(0));
        Check.none("sheet of a new object", () -> x.sheet(0, 0));
        Check.none("value of a new object", () -> x.value(0, 20));
        Check.due("NONE", RubberHall.NONE, -1);
    }

    private static void feeding() {
        RubberHall x = new RubberHall();
        for (int i = 1; i <= 35; i++) {
            Check.due("feed " + i, x.feed(0x20202020, 0x20202020, 0x20202020, 0x20202020, 0x20202020), 20 * i);
        }
        Check.due("feed beyond 700", x.feed(0x20202020, 0, 0, 0, 0), RubberHall.NONE);
        Check.due("none came", x.count(7), 700);
        Check.due("no status by feed", x.count(8) + x.count(9) + x.count(10), 0);
        Check.due("house of blanks", x.house(700), 0);
        Check.due("the tape is empty then", x.count(7), 0);

        // "line" "\nsai" "d;  " and bytes behind them that are not part of the TEXT, one of them above 127
        Check.due("feed of a line", x.feed(0x6c696e65, 0x0a736169, 0x643b2020, 0xff000041, 0x42434445), 20);
        Check.due("house(11)", x.house(11), 0);
        Check.due("its line is said", x.isSaid(0), true);
        Check.due("what is behind the first n is gone", x.count(7), 0);
        x.feed(0x6c696e65, 0x0a736169, 0x643b2020, 0xff000041, 0x42434445);
        Check.due("house(20)", x.house(20), 1);
        Check.due("the byte 255 is no token", x.fault(), 12);
    }

    private static void lengths() {
        RubberHall x = Check.hall("line felt;");
        Check.feed(x, "sheet");
        Check.due("tape", x.count(7), 20);
        Check.illegal("house(21)", () -> x.house(21));
        Check.illegal("house(-1)", () -> x.house(-1));
        Check.illegal("house(MIN)", () -> x.house(Integer.MIN_VALUE));
        Check.illegal("house(MAX)", () -> x.house(Integer.MAX_VALUE));
        Check.illegal("sheets(21)", () -> x.sheets(21));
        Check.illegal("sheets(-1)", () -> x.sheets(-1));
        Check.due("nothing changes", x.count(7), 20);
        Check.due("nor the line", x.count(3), 1);
        Check.due("nor the status", x.count(8), 0);
        Check.due("sheets(20)", x.sheets(20), -2);
        Check.due("fault", x.fault(), 20);
        Check.illegal("house(1) of an empty tape", () -> x.house(1));
        Check.due("the fault stays", x.fault(), 20);
        Check.due("sheets(0)", x.sheets(0), 0);
        Check.due("no fault then", x.fault(), RubberHall.NONE);
        Check.feed(x, "line felt;line said;");
        Check.due("house(0)", x.house(0), 0);
        Check.due("an empty house", x.count(3), 0);
        Check.due("the tape is empty, though none of it was read", x.count(7), 0);
    }

    private static void whatStays() {
        RubberHall x = Check.hall(PERSON + "sitting far 5;line felt;");
        x.sheet(0, 0);
        x.image();
        x.sheet(0, 0);
        Check.due("tell beyond its bounds", x.tell(0, 0, 4), false);
        Check.due("a house with a fault", Check.house(x, "line felt;line said;person sight 0"), 2);
        Check.due("its place", x.fault(), 33);
        Check.due("the tape is empty with a fault, too", x.count(7), 0);
        Check.due("lines stay", x.count(3), 1);
        Check.due("people stay", x.count(0), 1);
        Check.due("sheets stay", x.count(5), 2);
        Check.due("status 0", x.count(8), 1);
        Check.due("the image stays", x.restore(), true);
        Check.due("sheets of the image", x.count(5), 1);
        Check.due("a house", Check.house(x, "line said;"), 0);
        Check.due("no fault", x.fault(), RubberHall.NONE);
        Check.due("people are gone", x.count(0), 0);
        Check.due("sheets are gone", x.count(5), 0);
        Check.due("the image is gone", x.restore(), false);
        Check.due("status 0 stays", x.count(8), 1);
        Check.due("status 1 stays", x.count(9), 1);
    }

    private static void house(String text, int fault, int place) {
        RubberHall x = new RubberHall();
        Check.due("house of " + text, Check.house(x, text), fault);
        Check.due("fault of " + text, x.fault(), fault == 0 ? -1 : place);
        Check.due("status of " + text, x.count(8), fault == 0 ? 0 : 1);
    }

    private static void faultsOfClauses() {
        house("", 0, 0);
        house(" \n ", 0, 0);
        house("person sight 99 joint 99 touch 999 leans 1000 yes 100 wish 100;", 0, 0);
        house("person sight 1 joint 1 touch 1 leans 0 wish 0;", 0, 0);
        house("person sight 100", 2, 13);
        house("person sight 0", 2, 13);
        house("person sight", 1, 12);
        house("person sight yes", 1, 13);
        house("person joint 5", 1, 7);
        house("person sight 1 joint 100", 2, 21);
        house("person sight 1 joint 0", 2, 21);
        house("person sight 1 joint 1 touch 1000", 2, 29);
        house("person sight 1 joint 1 touch 0", 2, 29);
        house("person sight 1 joint 1 touch 1 leans 1001", 2, 37);
        house("person sight 1 joint 1 touch 1 leans 0 yes 101", 2, 43);
        house("person sight 1 joint 1 touch 1 leans 0 wish 101", 2, 44);
        house("person sight 1 joint 1 touch 1 leans 0 wish 1 yes 1;", 1, 46);
        house("person sight 1 joint 1 touch 1 leans 0 yes 1 yes 1;", 1, 45);
        house("personsight 1", 1, 0);
        house("Person", 1, 0);
        house("sitting far 999 late 2000 aside top told strokes 600;", 0, 0);
        house("sitting far 0 late 0 turned stick strokes 0;", 0, 0);
        house("sitting far 1000;", 2, 12);
        house("sitting far 0 late 2001;", 2, 19);
        house("sitting far 0 strokes 601;", 2, 22);
        house("sitting far 0 stick turned;", 1, 20);
        house("sitting far 0 turned aside;", 1, 21);
        house("sitting far 0 stick top;", 1, 20);
        house("sitting far 0 told late 4;", 1, 19);
        house("sitting far 00000;", 2, 12);
        house("sitting far 99999999999999999999;", 2, 12);
        house("sitting far 0 99999;", 1, 14);
        house("sitting far 0005;", 0, 0);
        house("law odds two 1000 spread 99 turn 1000 shape 1000;", 0, 0);
        house("law wish two 1 spread 1 turn 0 shape 0;", 0, 0);
        house("law spans two 0;", 2, 14);
        house("law spans two 1001;", 2, 14);
        house("law spans spread 0;", 2, 17);
        house("law spans spread 100;", 2, 17);
        house("law spans turn 1001;", 2, 15);
        house("law spans shape 1001;", 2, 16);
        house("law spans shape 1 turn 1;", 1, 18);
        house("law two 5;", 1, 4);
        house("law;", 1, 3);
        house("line felt", 1, 9);
        house("line felt \n", 1, 11);
        house("line felt;;", 1, 10);
        house("line shown;", 1, 5);
        house("line felt,", 1, 9);
        house("line\tfelt;", 1, 4);
        house("line felt;\r", 1, 10);
        house("line fel t;", 1, 5);
        house("lin e felt;", 1, 0);
        house("line(felt);", 1, 4);
        house("5line felt;", 1, 0);
        house("12345", 1, 0);
        house("sheet 0 0;", 1, 0);
    }

    private static void asManyAsThereMayBe() {
        house(PERSON.repeat(20), 0, 0);
        house(PERSON.repeat(20) + "person", 2, 640);
        house("sitting far0;".repeat(20), 0, 0);
        house("sitting far0;".repeat(20) + "sitting far0;", 2, 260);
        house("law odds;".repeat(6), 0, 0);
        house("law odds;".repeat(6) + " law", 2, 55);
        house("line felt;".repeat(12), 0, 0);
        house("line felt;".repeat(12) + "line", 2, 120);
        house("off 1;".repeat(4), 0, 0);
        house("off 1;".repeat(4) + "off", 2, 24);
    }

    private static void faultsOfExpr() {
        house("off", 1, 3);
        house("off;", 1, 3);
        house("off 9999;", 0, 0);
        house("off 10000;", 2, 4);
        house("off 1 10000;", 1, 6);
        house("off 1 2;", 1, 6);
        house("off 1 felt;", 1, 6);
        house("off 1 foo;", 1, 6);
        house("off felt;", 0, 0);
        house("off cold;", 3, 4);
        house("off less;", 3, 4);
        house("off or;", 3, 4);
        house("off z;", 3, 4);
        house("off a;", 3, 4);
        house("off and 1;", 3, 4);
        house("off 1 or and 1;", 3, 9);
        house("off 1 + not 1;", 3, 8);
        house("off 1 * not 1;", 3, 8);
        house("off 1 < not 1;", 3, 8);
        house("off not foo;", 3, 8);
        house("off not;", 1, 7);
        house("off -1;", 1, 4);
        house("off 1 -;", 1, 7);
        house("off 1 + + 1;", 1, 8);
        house("off 1<2<3;", 1, 7);
        house("off 1<2=3;", 1, 7);
        house("off 1=2+1<3;", 1, 9);
        house("off (1<2)=1;", 0, 0);
        house("off 1<2 or 1<2 and 1=2;", 0, 0);
        house("off );", 1, 4);
        house("off 1);", 1, 5);
        house("off ();", 1, 5);
        house("off (1;", 1, 6);
        house("off (1", 1, 6);
        house("off (1 2);", 1, 7);
        house("off ((1)+(2));", 0, 0);
        house("off 1", 1, 5);
        house("off 1 A;", 1, 6);
        house("off A;", 1, 4);
        house("off 1 not 1;", 1, 6);
        house("off not(1);", 0, 0);
    }

    private static void deepExpr() {
        house("off (((((1)))));", 0, 0);
        house("off ((((((1))))));", 2, 10);
        house("off ((((((felt))))));", 2, 10);
        house("off ((((((foo", 2, 10);
        house("off ((((((or", 2, 10);
        house("off ((((((not", 2, 10);
        house("off (((((((", 2, 10);
        house("off ((((((12345", 2, 10);
        house("off (((((( ", 1, 11);
        house("off (((((()", 1, 10);
        house("off ((((((;", 1, 10);
        house("off ((((((+", 1, 10);
        house("off ((((((A", 1, 10);
        house("off 1+(2+(3+(4+(5+(6)))));", 0, 0);
        house("off 1+(2+(3+(4+(5+(6+(7))))));", 2, 22);
        house("off (((((1)))))+(((((2)))));", 0, 0);
        house("off not not not not not not 1;", 0, 0);
        house("off not not not not not not not 1;", 2, 28);
        house("off not not not not(not not not not not not 1);", 0, 0);
        house("off not not not not not not 1 and not not not not not not 1;", 0, 0);
        house("off not not not not not not (not not not not not not not 1);", 2, 53);
    }

    private static void sheets(String text, int answer, int place) {
        RubberHall x = Check.hall(PERSON + PERSON + "sitting far 5;line felt;line said;");
        x.sheet(1, 0);
        Check.due("sheets of " + text, Check.sheets(x, text), answer);
        Check.due("fault of " + text, x.fault(), answer >= 0 ? -1 : place);
        Check.due("sheets behind " + text, x.count(5), 1 + Math.max(0, answer));
        Check.due("status behind " + text, x.count(8), answer >= 0 ? 0 : 1);
    }

    private static void faultsOfSheets() {
        sheets("", 0, 0);
        sheets("sheet 0 0;", 1, 0);
        sheets("sheet 1 0 6 0 shown less 999 start 100 slow 601 cold less 50;sheet 0 0;", 2, 0);
        sheets("sheet 0 0 shown 999 cold 50;", 1, 0);
        sheets("sheet 0 0 shown less 0;", 1, 0);
        sheets("sheet 2 0;", -5, 6);
        sheets("sheet 9999 0;", -5, 6);
        sheets("sheet 10000 0;", -3, 6);
        sheets("sheet 0 1;", -5, 8);
        sheets("sheet 0 12345;", -3, 8);
        sheets("sheet 0;", -2, 7);
        sheets("sheet;", -2, 5);
        sheets("sheet 0 0", -2, 9);
        sheets("sheet 0 0 7;", -3, 10);
        sheets("sheet 0 0 0 7;", -3, 12);
        sheets("sheet 0 0 0 0 0;", -5, 14);
        sheets("sheet 0 0 0 0 7;", -3, 14);
        sheets("sheet 0 0 0 0 12345;", -3, 14);
        sheets("sheet 0 0 shown 1000;", -3, 16);
        sheets("sheet 0 0 shown less 1000;", -3, 21);
        sheets("sheet 0 0 shown less less 1;", -2, 21);
        sheets("sheet 0 0 shown;", -2, 15);
        sheets("sheet 0 0 start 101;", -3, 16);
        sheets("sheet 0 0 start less 1;", -2, 16);
        sheets("sheet 0 0 slow 602;", -3, 15);
        sheets("sheet 0 0 cold 51;", -3, 15);
        sheets("sheet 0 0 cold less 51;", -3, 20);
        sheets("sheet 0 0 start 1 shown 1;", -2, 18);
        sheets("sheet 0 0 shown 1 5;", -2, 18);
        sheets("sheet 0 0;line", -2, 10);
        sheets("sheet 0 0;sheet 0 0 felt", -2, 20);
        sheets("5", -2, 0);
    }

    private static void sixtySheets() {
        RubberHall x = Check.hall(PERSON + "sitting far 5;");
        Check.due("58 sheets", Check.sheets(x, "sheet 0 0;".repeat(58)), 58);
        Check.due("three more", Check.sheets(x, "sheet 0 0;".repeat(3)), -3);
        Check.due("the first TOKEN of the third", x.fault(), 20);
        Check.due("none came", x.count(5), 58);
        Check.due("two more", Check.sheets(x, "sheet 0 0;".repeat(2)), 2);
        Check.due("one more", Check.sheets(x, "sheet"), -3);
        Check.due("status 2 is of sheet() alone", x.count(10), 0);
        Check.due("status 0", x.count(8), 2);
    }

    private static void whatIsRead() {
        RubberHall x = Check.hall(PERSON + "sitting far 5;line felt;line said;line felt;");
        Check.sheets(x, "sheet 0 0 6 0;\nsheet 0 0 shown less 12 start 7 slow 8 cold less 9;");
        Check.due("an answer", x.value(0, 0), 3);
        Check.due("an answer of 0", x.value(0, 1), -3);
        Check.due("an answer that isn't told", x.value(0, 2), 0);
        Check.due("shown that isn't told", x.value(0, 20), 0);
        Check.due("cold that isn't looked for", x.value(0, 23), 100);
        Check.due("no answers", x.value(1, 0), 0);
        Check.due("shown", x.value(1, 20), -12);
        Check.due("start", x.value(1, 21), 7);
        Check.due("slow", x.value(1, 22), 8);
        Check.due("cold", x.value(1, 23), -9);
        Check.sheets(x, "sheet 0 0 5 5 5 shown 500 start 50 slow 50 cold 50;sheet 1");
        x.sheet(0, 0);
        Check.due("nothing of a TEXT with a FAULT stays in a new sheet", x.value(2, 20), 0);
        Check.due("nor of its answers", x.value(2, 0), 0);
        Check.due("nor of its cold", x.value(2, 23), 100);
    }

    public static void main(String[] args) {
        newObject();
        feeding();
        lengths();
        whatStays();
        faultsOfClauses();
        asManyAsThereMayBe();
        faultsOfExpr();
        deepExpr();
        faultsOfSheets();
        sixtySheets();
        whatIsRead();
        Check.end("TextTest");
    }
}
