/** Promises 3 and 17: what an EXPR is worth, and by what a SHEET is OFF. */
public final class RulesTest {
    private static final String HOUSE = "person sight 10 joint 20 touch 100 leans 500;"
        + "person sight 10 joint 20 touch 100 leans 500;sitting far 1;sitting far 30 late 40 turned top told strokes 9;"
        + "line felt;line said;line felt;line said;";

    private static RubberHall hall(String expr) {
        RubberHall x = Check.hall(HOUSE + "off " + expr + ";");
        Check.due("a sheet", Check.sheets(x, "sheet 1 1 6 1 4 2 shown less 50 start 60 slow 70 cold 8;"), 1);
        return x;
    }

    private static void holds(String expr, boolean due) {
        Check.due("the rule of off " + expr, hall(expr).value(0, 34), due ? 0 : -1);
    }

    private static void is(String expr, int due) {
        String number = due < 0 ? "0-" + -due : "" + due;
        holds("(" + expr + ")=" + number, true);
        holds("(" + expr + ")=" + number + "+1", false);
    }

    private static void numbers() {
        is("7", 7);
        is("0007", 7);
        is("2+3*4", 14);
        is("2*3+4", 10);
        is("10-3-2", 5);
        is("100/10/5", 2);
        is("100/10*5", 50);
        is("2*(3+4)", 14);
        is("7/2", 3);
        is("(0-7)/2", -3);
        is("7/(0-2)", -3);
        is("5/0", 0);
        is("0/0", 0);
        // 9999 9999 9999 is 999700029999, less 233 times 2 to the 32nd
        holds("9999*9999*9999=0-(1027*1000+349)*1000-969", true);
        holds("9999*9999*9999<0", true);
        // the least int by -1 is itself
        holds("8*16*16*16*16*16*16*16/(0-1)<0", true);
    }

    private static void tests() {
        is("1<2", 1);
        is("2<2", 0);
        is("2<1", 0);
        is("0-1<0", 1);
        is("2=2", 1);
        is("2=3", 0);
        is("1+1=4/2", 1);
        is("not 0", 1);
        is("not 5", 0);
        is("not not 5", 1);
        is("not 1<2", 0);
        is("not 2<1", 1);
        is("(not 0)<1", 0);
        is("3 and 2", 1);
        is("3 and 0", 0);
        is("0 and 3", 0);
        is("0 or 7", 1);
        is("7 or 0", 1);
        is("0 or 0", 0);
        is("1 or 0 and 0", 1);
        is("(1 or 0) and 0", 0);
        is("0 and 0 or 1", 1);
        is("not 1 or 1", 1);
        is("not (1 or 1)", 0);
        is("not 0 and 0", 0);
        is("1<2 and 2<3", 1);
        holds("5", true);
        holds("0-5", true);
        holds("0", false);
        holds("1-1", false);
    }

    private static void values() {
        is("felt", 4);
        is("said", -3);
        is("shown", -50);
        is("start", 60);
        is("slow", 70);
        is("far", 30);
        is("late", 40);
        is("way", 1);
        is("thing", 2);
        is("told", 1);
        is("strokes", 9);
        is("who", 1);
    }

    private static void offBy() {
        RubberHall x = Check.hall(HOUSE + "off 40<shown;off 30<shown;off said=2;");
        x.sheet(0, 0);
        x.sheet(0, 0);
        x.sheet(1, 0);
        x.tell(0, 20, 41);
        Check.due("the first rule that holds", x.value(0, 34), 0);
        x.tell(0, 20, 31);
        Check.due("the second rule", x.value(0, 34), 1);
        x.tell(0, 20, 30);
        Check.due("no rule", x.value(0, 34), RubberHall.NONE);
        Check.due("all three count", x.count(6), 3);
        x.tell(1, 1, 2);
        Check.due("the third rule, though its person says yes", x.value(1, 34), 2);
        Check.due("its person says yes by a sheet that is off", x.person(0, 6), 1);
        Check.due("another sheet of that person", x.value(0, 34), -2);
        Check.due("another person", x.value(2, 34), RubberHall.NONE);
        Check.due("another person says no", x.person(1, 6), 0);
        Check.due("one counts", x.count(6), 1);
        x.tell(0, 3, -2);
        Check.due("together they are 0", x.person(0, 6), 0);
        Check.due("said", x.value(0, 33), -2);
        Check.due("felt is not said", x.value(0, 32), 0);
        Check.due("then only the rule takes off", x.count(6), 2);
        x.tell(0, 3, -1);
        Check.due("together they are 1", x.person(0, 6), 1);
    }

    public static void main(String[] args) {
        numbers();
        tests();
        values();
        offBy();
        Check.end("RulesTest");
    }
}
