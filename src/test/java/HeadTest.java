/** Promises 11 to 14, 29 and 30: WEIGHT, ONE, HELD, FORETOLD, HELD AT, FALLS. Most numbers are worked out by hand. */
public final class HeadTest {
    private static final String ONE_MAN = "person sight 10 joint 20 touch 100 leans 500 yes 50 wish 40;";

    private static void weights() {
        RubberHall x = new RubberHall();
        Check.due("weight(0, 1)", x.weight(0, 1), 1000000);
        Check.due("weight(1, 2)", x.weight(1, 2), 800000);
        Check.due("weight(-1, 2)", x.weight(-1, 2), 800000);
        Check.due("weight(2, 1)", x.weight(2, 1), 200000);
        Check.due("weight(1, 3), exactly", x.weight(1, 3), 900000);
        Check.due("weight(5, 3), cut down", x.weight(5, 3), 264705);
        Check.due("weight(9999, 9999)", x.weight(9999, 9999), 500000);
        Check.due("weight(-9999, 9999)", x.weight(-9999, 9999), 500000);
        Check.due("weight(9999, 1)", x.weight(9999, 1), 0);
        Check.due("weight(1, 9999)", x.weight(1, 9999), 999999);
        Check.illegal("weight(0, 0)", () -> x.weight(0, 0));
        Check.illegal("weight(0, -1)", () -> x.weight(0, -1));
        Check.illegal("weight(0, 10000)", () -> x.weight(0, 10000));
        Check.illegal("weight(10000, 1)", () -> x.weight(10000, 1));
        Check.illegal("weight(-10000, 1)", () -> x.weight(-10000, 1));
        Check.illegal("weight(MIN, MIN)", () -> x.weight(Integer.MIN_VALUE, Integer.MIN_VALUE));
        Check.due("no status by weight", x.count(9), 0);
    }

    /** ONE behind no stroke, TWO 1000, in a SITTING 30 away; unpulled by its WAY and THING it is 333333. */
    private static void pulledBy(String way, String law, int due) {
        RubberHall x = Check.hall(ONE_MAN + "sitting far 30" + way + ";law odds two 1000" + law + ";");
        Check.due("one" + way + law, x.one(0, 0, 0, 0), due);
    }

    private static void waysAndThings() {
        pulledBy("", " turn 0 shape 0", 333333);
        pulledBy(" turned", " turn 400", 166666);
        pulledBy(" turned", " turn 0", 0);
        pulledBy(" turned", "", 47618);
        // half of 1000 and 401 together, cut down, is 700
        pulledBy(" aside", " turn 401", 259258);
        pulledBy(" stick", " shape 700", 259258);
        pulledBy(" stick", " shape 0", 0);
        // half of 701, cut down, is 350
        pulledBy(" top", " shape 701", 148935);
        pulledBy(" top", " shape 1", 0);
        pulledBy(" turned stick", " turn 400 shape 700", 122806);
    }

    private static void strokes() {
        RubberHall x = Check.hall(ONE_MAN + "person sight 10 joint 20 touch 100 leans 100;"
            + "sitting far 90 late 100 strokes 12;sitting far 90 late 50 strokes 8;sitting far 90 late 300 strokes 4;"
            + "sitting far 90 late 50 told strokes 8;sitting far 0 strokes 0;law odds;law spans;law wish;");
        int[] behind = {250000, 357142, 480768, 606794, 720044, 810844, 877216, 922524, 952027, 970653, 982182, 989232,
            993511};
        for (int i = 0; i <= 12; i++) {
            for (int law = 0; law < 3; law++) {
                Check.due("one(" + law + ", 0, 0, " + i + ")", x.one(law, 0, 0, i), behind[i]);
            }
        }
        int[] slower = {35714, 89886, 208465, 412564, 651911, 833172, 930157, 972613, 989551};
        for (int i = 0; i <= 8; i++) {
            Check.due("one(0, 1, 1, " + i + ")", x.one(0, 1, 1, i), slower[i]);
            Check.due("one(0, 1, 3, " + i + ") of one only told of", x.one(0, 1, 3, i), 35714);
        }
        Check.due("late puts it off", x.one(0, 1, 2, 4), 456);
        Check.due("held by odds", x.held(0, 0, 0, 0), 993511);
        Check.due("held by spans", x.held(1, 0, 0, 0), 1000000);
        Check.due("held by wish", x.held(2, 0, 0, 0), 400000);
        Check.due("held by wish without one", x.held(2, 1, 0, 0), 0);
        Check.due("held of one only told of", x.held(0, 1, 3, 0), 35714);
        Check.due("comes", x.held(0, 0, 0, 2), 3);
        Check.due("comes later", x.held(0, 1, 1, 2), 4);
        Check.due("comes by spans, too", x.held(1, 1, 1, 2), 4);
        Check.due("doesn't come", x.held(0, 1, 2, 2), RubberHall.NONE);
        Check.due("doesn't come by being told", x.held(0, 1, 3, 2), RubberHall.NONE);
        Check.due("comes at once", x.held(0, 0, 4, 2), 0);
        Check.illegal("one(0, 0, 0, 13)", () -> x.one(0, 0, 0, 13));
        Check.illegal("one(0, 0, 0, -1)", () -> x.one(0, 0, 0, -1));
        Check.illegal("one(0, 0, 4, 1)", () -> x.one(0, 0, 4, 1));
        Check.none("one(3, 0, 0, -1)", () -> x.one(3, 0, 0, -1));
        Check.none("one(0, 2, 0, -1)", () -> x.one(0, 2, 0, -1));
        Check.none("one(0, 0, 5, -1)", () -> x.one(0, 0, 5, -1));
        Check.none("one(-1, 0, 0, 0)", () -> x.one(-1, 0, 0, 0));
        Check.none("one(0, -1, 0, 0)", () -> x.one(0, -1, 0, 0));
        Check.none("one(0, 0, -1, 0)", () -> x.one(0, 0, -1, 0));
    }

    private static void leaning() {
        RubberHall y = Check.hall(ONE_MAN + "sitting far 0 strokes 3;law odds two 1000;");
        Check.due("half is where it leans", y.one(0, 0, 0, 3), 500000);
        Check.due("half is enough", y.held(0, 0, 0, 2), 0);
        RubberHall x = Check.hall("person sight 1 joint 1 touch 1 leans 0;person sight 1 joint 1 touch 1 leans 1000;"
            + "sitting far 999 turned strokes 600;law odds two 1 turn 0;");
        Check.due("no one of no lean", x.one(0, 0, 0, 600), 0);
        Check.due("both are 0", x.one(0, 1, 0, 0), 0);
        Check.due("it stays 0", x.one(0, 1, 0, 600), 0);
        Check.due("it never comes", x.held(0, 1, 0, 2), RubberHall.NONE);
        Check.due("slow", x.foretold(0, 1, 0, 22), 601);
    }

    private static void drifts() {
        RubberHall x = Check.hall(ONE_MAN + "person sight 99 joint 99 touch 100 leans 500 wish 33;"
            + "sitting far 30 strokes 2;sitting far 999;sitting far 999 told strokes 7;law odds two 1000;law spans;law wish;");
        Check.due("drift by odds", x.held(0, 0, 0, 1), 7);
        Check.due("drift by spans", x.held(1, 0, 0, 1), 24);
        Check.due("drift by wish", x.held(2, 0, 0, 1), 12);
        Check.due("drift by wish, cut down", x.held(2, 1, 1, 1), 329);
        Check.due("drift by like spans", x.held(1, 1, 1, 1), 499);
        Check.none("held of another what", () -> x.held(0, 0, 0, 3));
        Check.none("held of another what below", () -> x.held(0, 0, 0, -1));
        Check.none("held of no law", () -> x.held(3, 0, 0, 0));
        Check.none("held of no person", () -> x.held(0, 2, 0, 0));
        Check.none("held of no sitting", () -> x.held(0, 0, 3, 0));
    }

    private static void foretold() {
        RubberHall x = Check.hall(ONE_MAN + "person sight 10 joint 20 touch 100 leans 100 yes 34 wish 67;"
            + "sitting far 30 strokes 2;sitting far 90 late 50 told strokes 8;sitting far 90 late 50 strokes 8;"
            + "law odds two 1000;law spans;law wish;law odds;line felt;line said;line felt;");
        int[][] due = {
            // felt, said, felt, shown, start, slow: by odds, spans, wish in the first sitting
            {-2, 0, -2, 7, 33, 3}, {3, 0, 3, 24, 100, 0}, {-1, 0, -1, 12, 40, 2},
        };
        int[] whats = {0, 1, 2, 20, 21, 22};
        for (int law = 0; law < 3; law++) {
            for (int i = 0; i < whats.length; i++) {
                Check.due("foretold(" + law + ", 0, 0, " + whats[i] + ")", x.foretold(law, 0, 0, whats[i]), due[law][i]);
            }
        }
        // 6 by 67 by 100 is 4, 6 by 34 by 100 is 2
        for (int law = 0; law < 4; law++) {
            Check.due("felt of what is told by law " + law, x.foretold(law, 1, 1, 0), 1);
            Check.due("said of what is told by law " + law, x.foretold(law, 1, 1, 1), -1);
        }
        Check.due("slow of what is told", x.foretold(3, 1, 1, 22), 9);
        Check.due("slow of what comes", x.foretold(3, 1, 2, 22), 4);
        Check.due("slow by spans", x.foretold(1, 1, 2, 22), 0);
        // 8 less 8 by 67 by 100, cut down
        Check.due("slow by wish", x.foretold(2, 1, 2, 22), 3);
        Check.due("felt by odds", x.foretold(3, 1, 2, 2), 2);
        Check.due("start by odds", x.foretold(3, 1, 2, 21), 98);
        for (int what : new int[] {-1, 3, 12, 19, 23, 30, Integer.MIN_VALUE, Integer.MAX_VALUE}) {
            Check.none("foretold of " + what, () -> x.foretold(0, 0, 0, what));
        }
        Check.none("foretold by no law", () -> x.foretold(4, 0, 0, 20));
        Check.none("foretold of no person", () -> x.foretold(0, 2, 0, 20));
        Check.none("foretold of no sitting", () -> x.foretold(0, 0, 3, 20));
    }

    private static void at() {
        RubberHall x = Check.hall(ONE_MAN + "sitting far 30 late 7 turned stick told strokes 1;sitting far 30;"
            + "law odds two 1000;law spans;law wish;law odds;sitting far 90 late 100;");
        Check.due("at as in a plain sitting", x.at(0, 0, 30, 0), 333333);
        Check.due("at as behind 60 strokes", x.at(3, 0, 90, 100), x.one(3, 0, 2, 60));
        Check.due("at by spans", x.at(1, 0, 999, 2000), 1000000);
        Check.due("at by wish", x.at(2, 0, 0, 0), 400000);
        Check.illegal("at far 1000", () -> x.at(0, 0, 1000, 0));
        Check.illegal("at far -1", () -> x.at(0, 0, -1, 0));
        Check.illegal("at late 2001", () -> x.at(0, 0, 0, 2001));
        Check.illegal("at late -1", () -> x.at(0, 0, 0, -1));
        Check.none("at no law", () -> x.at(4, 0, -1, 0));
        Check.none("at no person", () -> x.at(0, 1, -1, 0));
    }

    private static void falls() {
        RubberHall x = Check.hall(ONE_MAN + "person sight 10 joint 20 touch 100 leans 500 wish 50;"
            + "person sight 10 joint 20 touch 100 leans 600;"
            + "sitting far 0;sitting far 30;sitting far 15;law odds two 1000;law spans;law wish;");
        // with TWO 1000 strokes leave ONE as it is: it falls where the weight is below 1000000
        Check.due("falls by far", x.falls(0, 0, 0, 0), 1);
        // 3 by 2 are the odds that it leans; the weight is below two thirds from 21.3 mm on
        Check.due("falls by far later", x.falls(0, 2, 1, 0), 22);
        Check.due("the sitting counts for nothing", x.falls(0, 2, 0, 0), 22);
        Check.due("falls by late at once where it is far", x.falls(0, 2, 1, 1), 0);
        // FAR 15 leaves 6 by 5; behind 60 strokes less than 1, if the weight is below 0.996966: from 5.5 ms on
        Check.due("falls by late, each ten", x.falls(0, 2, 2, 1), 10);
        Check.due("never by spans", x.falls(1, 0, 0, 0), RubberHall.NONE);
        Check.due("never by spans, late", x.falls(1, 0, 0, 1), RubberHall.NONE);
        Check.due("at once by little wish", x.falls(2, 0, 0, 0), 0);
        Check.due("never by half a wish", x.falls(2, 1, 0, 1), RubberHall.NONE);
        Check.none("falls by another", () -> x.falls(0, 0, 0, 2));
        Check.none("falls by another below", () -> x.falls(0, 0, 0, -1));
        Check.none("falls in no sitting, by far, too", () -> x.falls(0, 0, 3, 0));
        Check.none("falls by no law", () -> x.falls(3, 0, 0, 0));
        Check.none("falls of no person", () -> x.falls(0, 3, 0, 0));
        RubberHall y = Check.hall("person sight 50 joint 50 touch 1 leans 500;sitting far 0;law odds two 999;");
        int far = y.falls(0, 0, 0, 0);
        Check.due("before it falls", y.at(0, 0, far - 1, 0) >= 500000, true);
        Check.due("where it falls", y.at(0, 0, far, 0) < 500000, true);
    }

    private static void fallsAtTheEnd() {
        // the weight by 172 is below 28 by 972 from 998.7 mm on; by 176 that is beyond 999
        RubberHall x = Check.hall("person sight 99 joint 73 touch 1 leans 972;person sight 99 joint 77 touch 1 leans 972;"
            + "sitting far 0;law odds two 1000;");
        Check.due("falls at far 999", x.falls(0, 0, 0, 0), 999);
        Check.due("would fall beyond", x.falls(0, 1, 0, 0), RubberHall.NONE);
        // the weight by 999 is 201290 at 1990 ms, 199683 at 2000: with TWO 200, 60 strokes gain 1.47 times or lose to 0.91
        RubberHall y = Check.hall("person sight 9 joint 9 touch 999 leans 145;person sight 9 joint 9 touch 999 leans 200;"
            + "sitting far 0;law odds two 200;");
        Check.due("falls at late 2000", y.falls(0, 0, 0, 1), 2000);
        Check.due("would fall later", y.falls(0, 1, 0, 1), RubberHall.NONE);
    }

    public static void main(String[] args) {
        weights();
        waysAndThings();
        strokes();
        leaning();
        drifts();
        foretold();
        at();
        falls();
        fallsAtTheEnd();
        Check.end("HeadTest");
    }
}
