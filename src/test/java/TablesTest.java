/** Promises 6 to 10: what a HOUSE tells, with what isn't told. */
public final class TablesTest {
    private static final String HOUSE = "person sight 1 joint 2 touch 3 leans 4 yes 5 wish 6;"
        + "person sight 7 joint 8 touch 9 leans 10;person sight 7 joint 8 touch 9 leans 10 wish 11;"
        + "sitting far 12 late 13 turned stick told strokes 14;sitting far 15;sitting far 16 aside top;"
        + "law spans;law odds two 17 spread 18 turn 19 shape 20;law wish turn 21;law odds;"
        + "line said;line felt;off 1=2;off 2=3;";

    private static void rows() {
        RubberHall x = Check.hall(HOUSE);
        int[] counts = {3, 3, 4, 2, 2, 0, 0, 0, 0, 0, 0};
        for (int i = 0; i < counts.length; i++) {
            Check.due("count(" + i + ")", x.count(i), counts[i]);
        }
        int[][] people = {{1, 2, 3, 4, 5, 6, 0}, {7, 8, 9, 10, 0, 0, 0}, {7, 8, 9, 10, 0, 11, 0}};
        int[][] sittings = {{12, 13, 1, 1, 1, 14}, {15, 0, 0, 0, 0, 60}, {16, 0, 2, 2, 0, 60}};
        int[][] laws = {{0, 300, 20, 100, 300}, {1, 17, 18, 19, 20}, {2, 300, 20, 21, 300}, {1, 300, 20, 100, 300}};
        for (int i = 0; i < 3; i++) {
            for (int j = 0; j < 7; j++) {
                Check.due("person(" + i + ", " + j + ")", x.person(i, j), people[i][j]);
            }
            for (int j = 0; j < 6; j++) {
                Check.due("sitting(" + i + ", " + j + ")", x.sitting(i, j), sittings[i][j]);
            }
        }
        for (int i = 0; i < 4; i++) {
            for (int j = 0; j < 5; j++) {
                Check.due("law(" + i + ", " + j + ")", x.law(i, j), laws[i][j]);
            }
        }
        Check.due("isSaid(0)", x.isSaid(0), true);
        Check.due("isSaid(1)", x.isSaid(1), false);
    }

    private static void whatIsNotThere() {
        RubberHall x = Check.hall(HOUSE);
        for (int i : new int[] {-1, 11, 12, 100, Integer.MIN_VALUE, Integer.MAX_VALUE}) {
            Check.none("count(" + i + ")", () -> x.count(i));
            Check.none("person(" + i + ", 0)", () -> x.person(i, 0));
            Check.none("person(0, " + i + ")", () -> x.person(0, i));
            Check.none("sitting(" + i + ", 0)", () -> x.sitting(i, 0));
            Check.none("sitting(0, " + i + ")", () -> x.sitting(0, i));
            Check.none("law(" + i + ", 0)", () -> x.law(i, 0));
            Check.none("law(0, " + i + ")", () -> x.law(0, i));
            Check.none("isSaid(" + i + ")", () -> x.isSaid(i));
        }
        Check.none("person(3, 0)", () -> x.person(3, 0));
        Check.none("person(0, 7)", () -> x.person(0, 7));
        Check.none("sitting(3, 0)", () -> x.sitting(3, 0));
        Check.none("sitting(0, 6)", () -> x.sitting(0, 6));
        Check.none("law(4, 0)", () -> x.law(4, 0));
        Check.none("law(0, 5)", () -> x.law(0, 5));
        Check.none("isSaid(2)", () -> x.isSaid(2));
    }

    private static void most() {
        RubberHall x = Check.hall("person sight1joint1touch1leans0;".repeat(19) + "person sight2joint3touch4leans5;");
        Check.due("people", x.count(0), 20);
        Check.due("the last person", x.person(19, 3), 5);
        Check.due("the house has none of those before", Check.house(x, "sitting far7;".repeat(20) + "line said;".repeat(12)), 0);
        Check.due("no people", x.count(0), 0);
        Check.due("the last sitting", x.sitting(19, 0), 7);
        Check.due("the last line", x.isSaid(11), true);
        Check.due("laws", Check.house(x, "law wish;".repeat(6)), 0);
        Check.due("the last law", x.law(5, 0), 2);
    }

    private static void counting() {
        RubberHall x = Check.hall("person sight 1 joint 2 touch 3 leans 4;sitting far 9;line felt;off felt;");
        x.sheet(0, 0);
        x.sheet(0, 0);
        x.tell(1, 0, 1);
        x.tell(0, 0, 9);
        x.tell(0, 20, 1000);
        Check.feed(x, "x");
        Check.due("sheets", x.count(5), 2);
        Check.due("sheets that count", x.count(6), 1);
        Check.due("bytes", x.count(7), 20);
        Check.due("status 0", x.count(8), 0);
        Check.due("status 1", x.count(9), 2);
        Check.due("status 2", x.count(10), 0);
        x.sheets(1);
        Check.due("status 0 of sheets", x.count(8), 1);
    }

    public static void main(String[] args) {
        rows();
        whatIsNotThere();
        most();
        counting();
        Check.end("TablesTest");
    }
}
