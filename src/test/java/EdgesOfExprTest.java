/** Terms EXPR and VALUES, and the FAULTS of an EXPR. */
public final class EdgesOfExprTest {
    private static final String MAN = "person sight1joint1touch1leans0;";
    // 46340 46340 and 88047, the most that an int holds, and 1 with a wrap, the least
    private static final String MOST = "((9999*4+6344)*(9999*4+6344)+9999*8+8055)";
    private static final String LEAST = "(" + MOST + "+1)";

    /** Whether a RULE with this EXPR takes a SHEET off that tells nothing but zeros, and 7 for its START. */
    private static void holds(String expr, boolean due) {
        RubberHall x = Check.hall(MAN + "sitting far 0;off " + expr + ";");
        Check.sheets(x, "sheet 0 0 start 7;");
        Check.due("the RULE of " + expr, x.value(0, 34), due ? 0 : RubberHall.NONE);
    }

    private static void is(String expr, String due) {
        holds("(" + expr + ")=" + due, true);
        holds("(" + expr + ")=" + due + "+1", false);
    }

    private static void ints() {
        Check.edge("Term EXPR: NUMBERS from 0 to 9999", () -> {
            is("0", "0");
            is("9999", "9999");
            is("0009", "9");
            is("9999+1", "5000*2");
        });
        Check.edge("Term EXPR: ints that wrap, by +", () -> {
            holds("0<" + MOST, true);
            holds(MOST + "+1<0", true);
            holds(MOST + "+1=0-" + MOST + "-1", true);
        });
        Check.edge("Term EXPR: ints that wrap, by -", () -> {
            holds(LEAST + "<0", true);
            holds("0<" + LEAST + "-1", true);
            holds(LEAST + "-1=" + MOST, true);
            holds("0-" + LEAST + "=" + LEAST, true);
        });
        Check.edge("Term EXPR: ints that wrap, by *", () -> {
            // 46341 46341 is 2147488281, 4633 more than the most
            holds("(9999*4+6345)*(9999*4+6345)<0", true);
            holds("(9999*4+6345)*(9999*4+6345)=" + LEAST + "+4633", true);
            holds("(9999*4+6344)*(9999*4+6344)<0", false);
            holds(MOST + "*2=0-2", true);
            holds(LEAST + "*2=0", true);
        });
        Check.edge("Term EXPR: the least int by -1 is itself", () -> {
            holds(LEAST + "/(0-1)=" + LEAST, true);
            holds(LEAST + "*(0-1)=" + LEAST, true);
        });
        Check.edge("Term EXPR: / cut down to 0", () -> {
            is("7/2", "3");
            is("(0-7)/2", "0-3");
            is("7/(0-2)", "0-3");
            is("(0-7)/(0-2)", "3");
            is("1/2", "0");
            is("(0-1)/2", "0");
            is("8/2", "4");
        });
        Check.edge("Term EXPR: / by 0 gives 0", () -> {
            is("5/0", "0");
            is("0/0", "0");
            is("(0-5)/0", "0");
            is("5/(3-3)", "0");
            is("start/far", "0");
            is("5/0+2", "2");
        });
    }

    private static void tests() {
        Check.edge("Term EXPR: < is 1 or 0, 0 of like ones", () -> {
            is("1<2", "1");
            is("2<2", "0");
            is("3<2", "0");
            is("0-1<0", "1");
            holds(LEAST + "<" + MOST, true);
            holds(MOST + "<" + LEAST, false);
        });
        Check.edge("Term EXPR: = is 1 or 0", () -> {
            is("2=2", "1");
            is("1=2", "0");
            is("3=2", "0");
            is("0=0-0", "1");
            holds(MOST + "=" + LEAST, false);
        });
        Check.edge("Term EXPR: not is 1 of 0, else 0", () -> {
            is("not 0", "1");
            is("not 1", "0");
            is("not 9999", "0");
            is("not(0-1)", "0");
        });
        Check.edge("Term EXPR: and is 1 if both hold, else 0", () -> {
            is("5 and 7", "1");
            is("5 and 0", "0");
            is("0 and 7", "0");
            is("0 and 0", "0");
            is("(0-5)and(0-7)", "1");
            is("2 and 4 and 8", "1");
            is("2 and 0 and 8", "0");
        });
        Check.edge("Term EXPR: or is 1 if one holds, else 0", () -> {
            is("5 or 7", "1");
            is("5 or 0", "1");
            is("0 or 7", "1");
            is("0 or 0", "0");
            is("0 or(0-7)", "1");
            is("(0-7)or 7", "1");
            is("0 or 0 or 8", "1");
        });
        Check.edge("Term EXPR: what isn't 0 holds", () -> {
            holds("1", true);
            holds("0", false);
            holds("0-1", true);
            holds("9999", true);
            holds(LEAST, true);
            holds("2-2", false);
            holds("start", true);
            holds("far", false);
        });
    }

    private static void grammar() {
        Check.edge("Term EXPR: SUM and PRODUCT from the left", () -> {
            is("9-3-2", "4");
            is("9-3+2", "8");
            is("64/8/2", "4");
            is("7/2*2", "6");
            is("2*7/2", "7");
        });
        Check.edge("Term EXPR: a PRODUCT ahead of a SUM, that ahead of a test", () -> {
            is("2+3*4", "14");
            is("20-8/4", "18");
            is("2*3+4*5", "26");
            is("1+1<3", "1");
            is("3<1+1", "0");
            is("2*2=8/2", "1");
        });
        Check.edge("Term EXPR: a test ahead of 'not', that ahead of 'and', that ahead of 'or'", () -> {
            is("not 0<1", "0");
            is("not 2=3", "1");
            is("not 0 and 0", "0");
            is("not 1 or 1", "1");
            is("1 or 0 and 0", "1");
            is("0 and 0 or 1", "1");
            is("1 or 1 and 0 or 0", "1");
        });
        Check.edge("Term EXPR: a parenthesis ahead of all", () -> {
            is("(2+3)*4", "20");
            is("9-(3-2)", "8");
            is("64/(8/2)", "16");
            is("(not 0)<1", "0");
            is("not(0 and 0)", "1");
            is("(1 or 0)and 0", "0");
            is("2*(3)", "6");
        });
        Check.edge("Term EXPR: one test of a NOT, a second one is FAULT 1", () -> {
            Refusal.house("off 1<2<3;", 1, 7);
            Refusal.house("off 1<2=3;", 1, 7);
            Refusal.house("off 1=2<3;", 1, 7);
            Refusal.house("off 1=2+3*4=3;", 1, 11);
            Refusal.house("off (1<2<3);", 1, 8);
            Refusal.house("off not 1=2=3;", 1, 11);
            Refusal.house("off 1<2 and 1<2<3;", 1, 15);
            Check.hall("off 1<2 and 1<2 or 1=2;off(1<2)<3;off 1<(2<3);off not 1<2 and not 2=3;");
        });
        Check.edge("Term EXPR: it ends with the ';' of its CLAUSE alone", () -> {
            Refusal.house("off 1);", 1, 5);
            Refusal.house("off (1));", 1, 7);
            Refusal.house("off (1;", 1, 6);
            Refusal.house("off 1(2);", 1, 5);
            Refusal.house("off (1)2;", 1, 7);
            Refusal.house("off (1)felt;", 1, 7);
            Refusal.house("off 1 not 2;", 1, 6);
            Refusal.house("off 1 felt;", 1, 6);
            Refusal.house("off 1 off 1;", 1, 6);
            Refusal.house("off 1 line felt;", 1, 6);
        });
        Check.edge("Term EXPR: a PART missing is FAULT 1 at what stands there", () -> {
            Refusal.house("off ;", 1, 4);
            Refusal.house("off ();", 1, 5);
            Refusal.house("off -1;", 1, 4);
            Refusal.house("off 1+;", 1, 6);
            Refusal.house("off 1++1;", 1, 6);
            Refusal.house("off 1*/1;", 1, 6);
            Refusal.house("off 1<;", 1, 6);
            Refusal.house("off 1<=1;", 1, 6);
            Refusal.house("off =1;", 1, 4);
            Refusal.house("off not;", 1, 7);
            Refusal.house("off 1 and;", 1, 9);
            Refusal.house("off 1 or);", 1, 8);
            Refusal.house("off );", 1, 4);
        });
    }

    private static void words() {
        Check.edge("Term FAULTS: 3 any word where a PART must stand that is no VALUE, in each such place", () -> {
            for (String word : new String[] {"foo", "or", "and", "cold", "less", "sheet", "person", "off", "spans", "a", "z",
                "fel", "feltt", "whos", "strokesx"}) {
                Refusal.house("off " + word + ";", 3, 4);
                Refusal.house("off (" + word + ");", 3, 5);
                Refusal.house("off 1+" + word + ";", 3, 6);
                Refusal.house("off 1*" + word + ";", 3, 6);
                Refusal.house("off 1<" + word + ";", 3, 6);
                Refusal.house("off not " + word + ";", 3, 8);
                Refusal.house("off 1 and " + word + ";", 3, 10);
                Refusal.house("off 1 or " + word + ";", 3, 9);
            }
        });
        Check.edge("Term FAULTS: 3 'not' where a PART must stand and no NOT may", () -> {
            Refusal.house("off 1+not 1;", 3, 6);
            Refusal.house("off 1-not 1;", 3, 6);
            Refusal.house("off 1*not 1;", 3, 6);
            Refusal.house("off 1/not 1;", 3, 6);
            Refusal.house("off 1<not 1;", 3, 6);
            Refusal.house("off 1=not 1;", 3, 6);
            Check.hall("off 1+(not 1);off(not 1)and not 1 or not(not 1);");
        });
    }

    private static void within() {
        Check.edge("Term FAULTS: an EXPR within 5 others", () -> {
            holds("(((((1)))))", true);
            holds("(((((0)))))", false);
            holds("1+(1+(1+(1+(1+(1)))))=6", true);
            holds("(((((not not not not not not 1)))))", true);
            holds("(((((start)))))=7", true);
            Check.hall("off (((((1)))))+(((((2)))))*((((3)+(4))+(5))+(6));");
            Check.hall("off (1)+(2)+(3)+(4)+(5)+(6)+(7)+(8);");
        });
        Check.edge("Term FAULTS: a NUMBER as the first TOKEN of an EXPR within 6 others is 2", () -> {
            Refusal.house("off ((((((1))))));", 2, 10);
            Refusal.house("off ((((((0", 2, 10);
            Refusal.house("off ((((((12345", 2, 10);
            Refusal.house("off 1+(2+(3+(4+(5+(6+(7))))));", 2, 22);
        });
        Check.edge("Term FAULTS: any word as the first TOKEN of an EXPR within 6 others is 2", () -> {
            for (String word : new String[] {"felt", "who", "not", "and", "or", "foo", "off", "cold"}) {
                Refusal.house("off ((((((" + word + "))))));", 2, 10);
            }
        });
        Check.edge("Term FAULTS: a parenthesis as the first TOKEN of an EXPR within 6 others is 2", () -> {
            Refusal.house("off (((((((", 2, 10);
            Refusal.house("off (((((((1)))))));", 2, 10);
            Refusal.house("off ((((( (\n (1)))))));", 2, 13);
        });
        Check.edge("Term FAULTS: what can't begin an EXPR within 6 others is 1 there", () -> {
            for (String s : new String[] {")", ";", "+", "-", "*", "/", "<", "=", "A", ".", "\u00ff"}) {
                Refusal.house("off ((((((" + s, 1, 10);
            }
            Refusal.house("off ((((((", 1, 10);
            Refusal.house("off (((((( \n", 1, 12);
        });
        Check.edge("Term FAULTS: EXPRs side by side are not within one another", () -> {
            Refusal.house("off (((((1)))))+((((((1))))));", 2, 22);
            Refusal.house("off (((((1)+((2))))));", 2, 14);
            Check.hall("off (((((1)+(2)))));");
        });
        Check.edge("Term FAULTS: of each RULE anew, behind a FAULT in an EXPR, too", () -> {
            RubberHall x = Check.hall("off (((((1)))));off (((((2)))));");
            Check.due("within 5", Check.house(x, "off (((((1"), 1);
            Check.due("within none", Check.house(x, "off (((((1)))));"), 0);
            Check.due("behind six 'not'", Check.house(x, "off not not not not not not;"), 1);
            Check.due("behind none", Check.house(x, "off not not not not not not 1;"), 0);
        });
    }

    private static void nots() {
        String six = "not not not not not not ";
        Check.edge("Term FAULTS: six 'not' side by side", () -> {
            is(six + "5", "1");
            is(six + "0", "0");
            is("not not not not not 5", "0");
            holds("1 and " + six + "5", true);
        });
        Check.edge("Term FAULTS: the seventh 'not' side by side is 2", () -> {
            Refusal.house("off " + six + "not 1;", 2, 28);
            Refusal.house("off " + six + "not", 2, 28);
            Refusal.house("off " + six + "not not 1;", 2, 28);
            Refusal.house("off 1 and " + six + "not 1;", 2, 34);
            Refusal.house("off 1 or " + six + "not 1;", 2, 33);
            Refusal.house("off (" + six + "not 1);", 2, 29);
        });
        Check.edge("Term FAULTS: 'not' that aren't side by side", () -> {
            Check.hall("off " + six + "1 and " + six + "1 or " + six + "1;off " + six + "1;");
            Check.hall("off not not not not(not not not 1);");
            Check.hall("off " + six + "(" + six + "(" + six + "1));");
            Refusal.house("off " + six + "(" + six + "not 1);", 2, 53);
        });
        Check.edge("Term FAULTS: six 'not', then a word that is no VALUE, a sign, the end", () -> {
            Refusal.house("off " + six + "foo;", 3, 28);
            Refusal.house("off " + six + ";", 1, 28);
            Refusal.house("off " + six, 1, 28);
        });
    }

    private static RubberHall sheet(String sitting, String lines, String sheet, String rule) {
        RubberHall x = Check.hall(MAN.repeat(2) + sitting + lines + "off " + rule + ";");
        Check.due("sheets", Check.sheets(x, sheet), 1);
        return x;
    }

    private static void value(String sitting, String lines, String sheet, String value, int due) {
        String number = due < 0 ? "0-" + -due : "" + due;
        RubberHall x = sheet(sitting, lines, sheet, value + "=" + number);
        Check.due("RULE of " + value + " = " + due, x.value(0, 34), 0);
        RubberHall y = sheet(sitting, lines, sheet, "not " + value + "=" + number);
        Check.due("RULE of not " + value + " = " + due, y.value(0, 34) == 0, false);
    }

    private static void values() {
        String felt = "line felt;".repeat(12);
        String said = "line said;".repeat(12);
        String far = "sitting far 0 strokes 0;";
        String sheet = "sheet 0 0;";
        Check.edge("Term VALUES: 'felt', sums of answers to 12 LINES and to none", () -> {
            value(far, felt, "sheet 0 0" + " 6".repeat(12) + ";", "felt", 36);
            value(far, felt, "sheet 0 0" + " 0".repeat(12) + ";", "felt", -36);
            value(far, "line felt;line said;line felt;", "sheet 0 0 6 2 4;", "felt", 4);
            value(far, said, "sheet 0 0" + " 0".repeat(12) + ";", "felt", 0);
            value(far, "", sheet, "felt", 0);
        });
        Check.edge("Term VALUES: 'said', sums of answers to 12 LINES and to none", () -> {
            value(far, said, "sheet 0 0" + " 0".repeat(12) + ";", "said", -36);
            value(far, said, "sheet 0 0" + " 6".repeat(12) + ";", "said", 36);
            value(far, "line said;line felt;line said;", "sheet 0 0 1 6 0;", "said", -5);
            value(far, felt, "sheet 0 0" + " 0".repeat(12) + ";", "said", 0);
            value(far, "", sheet, "said", 0);
        });
        Check.edge("Term VALUES: 'shown', 'start', 'slow' at their bounds", () -> {
            value(far, "", "sheet 0 0 shown 999;", "shown", 999);
            value(far, "", "sheet 0 0 shown less 999;", "shown", -999);
            value(far, "", sheet, "shown", 0);
            value(far, "", "sheet 0 0 start 100;", "start", 100);
            value(far, "", sheet, "start", 0);
            value(far, "", "sheet 0 0 slow 601;", "slow", 601);
            value(far, "", sheet, "slow", 0);
        });
        Check.edge("Term VALUES: those of its SITTING at their bounds", () -> {
            String most = "sitting far 999 late 2000 aside top told strokes 600;";
            String[] values = {"far", "late", "way", "thing", "told", "strokes"};
            int[] due = {999, 2000, 2, 2, 1, 600};
            for (int i = 0; i < values.length; i++) {
                value(most, "", sheet, values[i], due[i]);
                value(far, "", sheet, values[i], 0);
            }
            value("sitting far 0;".repeat(19) + most, "", "sheet 0 19;", "far", 999);
            value("sitting far 0 turned top;", "", sheet, "way", 1);
            value("sitting far 0 turned top;", "", sheet, "thing", 2);
            value("sitting far 0 aside stick;", "", sheet, "thing", 1);
        });
        Check.edge("Term VALUES: 'who', the number of its PERSON, from 0 to 19", () -> {
            value(far, "", sheet, "who", 0);
            value(far, "", "sheet 1 0;", "who", 1);
            RubberHall x = Check.hall(MAN.repeat(20) + far + "off who=19;off who=18;");
            Check.sheets(x, "sheet 17 0;sheet 18 0;sheet 19 0;");
            Check.due("of 17", x.value(0, 34), RubberHall.NONE);
            Check.due("of 18", x.value(1, 34), 1);
            Check.due("of 19", x.value(2, 34), 0);
        });
    }

    public static void main(String[] args) {
        ints();
        tests();
        grammar();
        words();
        within();
        nots();
        values();
        Check.end("EdgesOfExprTest");
    }
}
