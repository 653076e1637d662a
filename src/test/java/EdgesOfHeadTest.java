/** Terms WEIGHT, ONE, PULLED, HELD, PLACE, DRIFT, COMES, FORETOLD, HELD AT, FALLS. */
public final class EdgesOfHeadTest {
    private static final int NEVER = RubberHall.NONE;

    /** A hall of one PERSON that leans so much, one SITTING and one LAW. */
    private static RubberHall hall(int leans, String sitting, String law) {
        return hall("person sight 10 joint 20 touch 100 leans " + leans, sitting, law);
    }

    private static RubberHall hall(String person, String sitting, String law) {
        return Check.hall(person + ";sitting far " + sitting + ";law " + law + ";");
    }

    /** ONE behind no stroke. */
    private static void one(int leans, String sitting, String law, int due) {
        Check.due("ONE of LEANS " + leans + ", far " + sitting + ", law " + law, hall(leans, sitting, law).one(0, 0, 0, 0), due);
    }

    private static void weights() {
        RubberHall x = new RubberHall();
        Check.edge("Term WEIGHT: of no difference 1,000,000", () -> {
            Check.due("weight(0, 1)", x.weight(0, 1), 1000000);
            Check.due("weight(0, 9999)", x.weight(0, 9999), 1000000);
        });
        Check.edge("Term WEIGHT: half of a difference like the span", () -> {
            Check.due("weight(1, 1)", x.weight(1, 1), 500000);
            Check.due("weight(9999, 9999)", x.weight(9999, 9999), 500000);
        });
        Check.edge("Term WEIGHT: of a difference below 0 as of that above", () -> {
            Check.due("weight(-1, 1)", x.weight(-1, 1), 500000);
            Check.due("weight(-9999, 9999)", x.weight(-9999, 9999), 500000);
            Check.due("weight(-5, 3)", x.weight(-5, 3), 264705);
        });
        Check.edge("Term WEIGHT: cut down", () -> {
            // 264705.88, 999999.99, 1.002, 0.999, 0.01
            Check.due("weight(5, 3)", x.weight(5, 3), 264705);
            Check.due("weight(1, 9999)", x.weight(1, 9999), 999999);
            Check.due("weight(999, 1)", x.weight(999, 1), 1);
            Check.due("weight(1000, 1)", x.weight(1000, 1), 0);
            Check.due("weight(9999, 1)", x.weight(9999, 1), 0);
            // 900000 exactly
            Check.due("weight(1, 3)", x.weight(1, 3), 900000);
        });
    }

    private static void ones() {
        Check.edge("Term ONE: at first 1000 by LEANS, from 0 to 1000", () -> {
            // by TWO 1000 a WEIGHT of 1,000,000 leaves it
            for (int leans : new int[] {0, 1, 2, 499, 500, 501, 998, 999, 1000}) {
                one(leans, "0", "odds two 1000", 1000 * leans);
            }
        });
        Check.edge("Term ONE: of LEANS 0 always 0, of 1000 always 1,000,000, if anything weighs", () -> {
            one(0, "0", "odds two 1", 0);
            one(1000, "999 turned stick", "odds turn 1 shape 1", 1000000);
            RubberHall x = hall("person sight 1 joint 1 touch 1 leans 1000", "999 late 999 aside top strokes 600",
                "odds turn 0 shape 2");
            Check.due("behind 600 strokes", x.one(0, 0, 0, 600), 1000000);
        });
        Check.edge("Term ONE: the span is SIGHT and JOINT together, from 2 to 198", () -> {
            RubberHall x = hall("person sight 1 joint 1 touch 1 leans 500", "2", "odds two 1000");
            Check.due("FAR 2 by 2", x.one(0, 0, 0, 0), 333333);
            RubberHall y = hall("person sight 99 joint 99 touch 1 leans 500", "198", "odds two 1000");
            Check.due("FAR 198 by 198", y.one(0, 0, 0, 0), 333333);
            RubberHall z = hall("person sight 1 joint 1 touch 1 leans 500", "999", "odds two 1000");
            Check.due("FAR 999 by 2", z.one(0, 0, 0, 0), 3);
        });
        Check.edge("Term PULLED: by TWO 1 and 1000", () -> {
            // 1000 by 1001, 1000 by 1002, 1000 by 1999 are laid beside
            one(500, "0", "odds two 1", 999000);
            one(500, "0", "odds two 2", 998003);
            one(500, "0", "odds two 999", 500250);
            one(500, "0", "odds two 1000", 500000);
        });
        Check.edge("Term PULLED: 0 if both are 0, by TURN 0", () -> one(1000, "0 turned", "odds turn 0", 0));
        Check.edge("Term PULLED: 0 if both are 0, by SHAPE 0 and half of 1", () -> {
            one(1000, "0 stick", "odds shape 0", 0);
            one(1000, "0 top", "odds shape 1", 0);
            one(1000, "0 top", "odds shape 2", 1000000);
        });
        Check.edge("Term PULLED: 0 if both are 0, by a stroke that weighs nothing", () -> {
            String surely = "person sight 10 joint 20 touch 1 leans 1000";
            RubberHall x = hall(surely, "0 late 1000 strokes 3", "odds");
            int[] due = {1000000, 0, 0, 0};
            for (int i = 0; i < 4; i++) {
                Check.due("behind " + i, x.one(0, 0, 0, i), due[i]);
            }
            // the WEIGHT of 999 by 1 is 1 yet
            RubberHall y = hall(surely, "0 late 999 strokes 3", "odds");
            Check.due("by a WEIGHT of 1", y.one(0, 0, 0, 3), 1000000);
        });
        Check.edge("Term PULLED: 0 by a weight of 0 of what isn't sure", () -> {
            one(999, "0 turned", "odds turn 0", 0);
            one(1, "0 stick", "odds shape 0", 0);
        });
        Check.edge("Term PULLED: cut down", () -> {
            // 333333.3, 998003.99, 499749.8
            one(500, "30", "odds two 1000", 333333);
            one(500, "0", "odds two 2", 998003);
            one(500, "0 turned", "odds two 1000 turn 999", 499749);
        });
    }

    private static void waysAndThings() {
        // by TWO 1000 from LEANS 500: 1000 by what pulls, by that and 1000
        int[] pulls = {0, 1, 2, 998, 999, 1000};
        int[] whole = {0, 999, 1996, 499499, 499749, 500000};
        int[] halfWith1000 = {333333, 333333, 333777, 499749, 499749, 500000};
        int[] half = {0, 0, 999, 332888, 332888, 333333};
        Check.edge("Term ONE: WAY 0 and THING 0 leave it", () -> one(500, "0", "odds two 1000 turn 0 shape 0", 500000));
        Check.edge("Term ONE: of WAY 1 by TURN, 0 to 1000", () -> {
            for (int i = 0; i < 6; i++) {
                one(500, "0 turned", "odds two 1000 turn " + pulls[i] + " shape 0", whole[i]);
            }
        });
        Check.edge("Term ONE: of WAY 2 by half of 1000 and TURN together, cut down", () -> {
            for (int i = 0; i < 6; i++) {
                one(500, "0 aside", "odds two 1000 turn " + pulls[i] + " shape 0", halfWith1000[i]);
            }
        });
        Check.edge("Term ONE: of THING 1 by SHAPE, 0 to 1000", () -> {
            for (int i = 0; i < 6; i++) {
                one(500, "0 stick", "odds two 1000 turn 0 shape " + pulls[i], whole[i]);
            }
        });
        Check.edge("Term ONE: of THING 2 by half of SHAPE, cut down", () -> {
            for (int i = 0; i < 6; i++) {
                one(500, "0 top", "odds two 1000 turn 0 shape " + pulls[i], half[i]);
            }
        });
        Check.edge("Term ONE: by WAY, then by THING", () -> {
            one(500, "0 turned top", "odds two 1000 turn 500 shape 500", 111110);
            one(500, "0 aside stick", "odds two 1000 turn 500 shape 500", 272726);
        });
    }

    private static void strokes() {
        Check.edge("Term ONE: behind no stroke LATE counts for nothing", () -> {
            RubberHall x = hall(500, "90 late 2000 strokes 0", "odds");
            Check.due("it", x.one(0, 0, 0, 0), 250000);
        });
        Check.edge("Term ONE: by the WEIGHT of LATE by TOUCH with each stroke", () -> {
            RubberHall x = hall(500, "90 late 100 strokes 5", "odds");
            int[] due = {250000, 357142, 480768, 606794, 720044, 810844};
            for (int i = 0; i < due.length; i++) {
                Check.due("behind " + i, x.one(0, 0, 0, i), due[i]);
            }
        });
        Check.edge("Term ONE: by LATE 2000 and TOUCH 999, by LATE 1 and TOUCH 1", () -> {
            RubberHall x = hall("person sight 10 joint 20 touch 999 leans 500", "0 late 2000", "odds two 1000");
            Check.due("behind 1", x.one(0, 0, 0, 1), 166444);
            RubberHall y = hall("person sight 10 joint 20 touch 1 leans 500", "0 late 1", "odds two 1000");
            Check.due("behind 1", y.one(0, 0, 0, 1), 333333);
        });
        Check.edge("Term ONE: if the SITTING is TOLD, no stroke counts", () -> {
            RubberHall x = hall(500, "90 late 100 told strokes 600", "odds");
            for (int i : new int[] {0, 1, 2, 599, 600}) {
                Check.due("behind " + i, x.one(0, 0, 0, i), 250000);
            }
            Check.due("HELD", x.held(0, 0, 0, 0), 250000);
        });
    }

    private static void helds() {
        Check.edge("Term HELD: of LAW SPANS 1,000,000 always", () -> {
            for (String sitting : new String[] {"0", "999 late 2000", "0 told", "999 turned stick told strokes 0"}) {
                Check.due("of " + sitting, hall(0, sitting, "spans turn 0 shape 0").held(0, 0, 0, 0), 1000000);
            }
        });
        Check.edge("Term HELD: of ODDS the ONE behind all STROKES, 0, some, 600", () -> {
            RubberHall x = hall(500, "90 late 100 strokes 0", "odds");
            Check.due("behind 0", x.held(0, 0, 0, 0), 250000);
            RubberHall y = hall(500, "90 late 100 strokes 3", "odds");
            Check.due("behind 3", y.held(0, 0, 0, 0), 606794);
            RubberHall z = hall("person sight 50 joint 50 touch 100 leans 355", "5 strokes 600", "odds two 999");
            Check.due("behind 600", z.held(0, 0, 0, 0), 500115);
        });
        Check.edge("Term HELD: of WISH 10,000 by WISH, 0 to 100", () -> {
            for (int wish : new int[] {0, 1, 49, 50, 99, 100}) {
                RubberHall x = hall("person sight 10 joint 20 touch 100 leans 500 wish " + wish, "999 turned told", "wish");
                Check.due("of WISH " + wish, x.held(0, 0, 0, 0), 10000 * wish);
            }
        });
    }

    private static void drift(String spans, String sitting, String law, int due) {
        RubberHall x = hall("person " + spans + " touch 100 leans 900", sitting, law);
        Check.due("DRIFT of " + spans + ", far " + sitting + ", law " + law, x.held(0, 0, 0, 1), due);
    }

    private static void drifts() {
        Check.edge("Term DRIFT: of FAR 0 none", () -> {
            drift("sight 1 joint 99", "0", "spans", 0);
            drift("sight 99 joint 1", "0", "odds", 0);
        });
        Check.edge("Term DRIFT: of FAR 999, by JOINT 99 and SIGHT 1, by like ones, by JOINT 1 and SIGHT 99", () -> {
            // 998.898, 499.5, 0.1
            drift("sight 1 joint 99", "999", "spans", 998);
            drift("sight 1 joint 1", "999", "spans", 499);
            drift("sight 99 joint 99", "999", "spans", 499);
            drift("sight 99 joint 1", "999", "spans", 0);
        });
        Check.edge("Term DRIFT: cut down", () -> {
            drift("sight 50 joint 50", "1", "spans", 0);
            drift("sight 50 joint 50", "2", "spans", 1);
            drift("sight 50 joint 50", "3", "spans", 1);
        });
        Check.edge("Term DRIFT: PLACE and HELD are cut down in one", () -> {
            // HELD is 999888: 1.4998; 1 by that were less than 1
            drift("sight 99 joint 99", "3 strokes 0", "odds two 1", 1);
            // HELD is 333333: 24 by that is 7.99
            RubberHall x = hall(500, "30 strokes 0", "odds two 1000");
            Check.due("DRIFT", x.held(0, 0, 0, 1), 7);
        });
        Check.edge("Term DRIFT: of HELD 0 none", () -> {
            RubberHall x = hall(0, "999", "odds");
            Check.due("DRIFT", x.held(0, 0, 0, 1), 0);
        });
        Check.edge("Term DRIFT: of LAW WISH FAR by WISH by 100, cut down", () -> {
            int[][] due = {{999, 100, 999}, {999, 1, 9}, {99, 1, 0}, {100, 1, 1}, {999, 0, 0}, {0, 100, 0}, {999, 99, 989}};
            for (int[] d : due) {
                RubberHall x = hall("person sight 1 joint 99 touch 1 leans 0 wish " + d[1], d[0] + " told", "wish");
                Check.due("of FAR " + d[0] + ", WISH " + d[1], x.held(0, 0, 0, 1), d[2]);
            }
        });
    }

    private static void comes(String person, String sitting, String law, int due) {
        RubberHall x = hall("person " + person, sitting, law);
        Check.due("COMES of " + person + ", far " + sitting + ", law " + law, x.held(0, 0, 0, 2), due);
    }

    private static void comings() {
        String half = "sight 10 joint 20 touch 100 leans 500";
        Check.edge("Term COMES: 0, if ONE is 500,000 at first", () -> {
            comes(half, "0", "odds two 1000", 0);
            comes(half, "0 strokes 0", "odds two 1000", 0);
            comes("sight 10 joint 20 touch 100 leans 1000", "999 strokes 0", "odds", 0);
        });
        Check.edge("Term COMES: not at 499,999", () -> {
            String sitting = "0 turned strokes 0";
            RubberHall x = hall("person sight 10 joint 10 touch 100 leans 200", sitting, "odds two 500 turn 1000");
            Check.due("ONE", x.one(0, 0, 0, 0), 499999);
            Check.due("COMES", x.held(0, 0, 0, 2), NEVER);
        });
        Check.edge("Term COMES: behind the last of all STROKES, and not behind one more", () -> {
            comes(half, "90 late 100 strokes 4", "odds", 3);
            comes(half, "90 late 100 strokes 3", "odds", 3);
            comes(half, "90 late 100 strokes 2", "odds", NEVER);
            comes(half, "90 late 100 strokes 0", "odds", NEVER);
        });
        Check.edge("Term COMES: behind the 600th", () -> {
            // 499865 behind 599, 500115 behind 600
            comes("sight 50 joint 50 touch 1 leans 355", "5 strokes 600", "odds two 999", 600);
            comes("sight 50 joint 50 touch 1 leans 355", "5 strokes 599", "odds two 999", NEVER);
            // 499840 behind 600
            comes("sight 50 joint 50 touch 1 leans 355", "6 strokes 600", "odds two 999", NEVER);
        });
        Check.edge("Term COMES: of a TOLD SITTING at first or never", () -> {
            comes(half, "0 told", "odds two 1000", 0);
            comes(half, "90 told", "odds", NEVER);
        });
        Check.edge("Term COMES: by ONE, whatever the LAW's KIND", () -> {
            comes(half, "90 late 100 strokes 4", "spans", 3);
            comes(half, "90 late 100 strokes 4", "wish", 3);
            comes(half, "90 late 100 strokes 2", "spans", NEVER);
        });
        Check.edge("Term COMES: never of LEANS 0, of LATE that pulls apart", () -> {
            comes("sight 10 joint 20 touch 100 leans 0", "0 strokes 600", "odds two 1", NEVER);
            comes("sight 10 joint 20 touch 1 leans 499", "0 late 2000 strokes 600", "odds two 1000", NEVER);
        });
    }

    private static void foretold(String person, String sitting, String law, int held, int felt, int start) {
        RubberHall x = Check.hall("person " + person + ";sitting far " + sitting + ";law " + law + ";line felt;");
        Check.due("HELD of " + person, x.held(0, 0, 0, 0), held);
        Check.due("FELT by HELD " + held, x.foretold(0, 0, 0, 0), felt);
        Check.due("START by HELD " + held, x.foretold(0, 0, 0, 21), start);
    }

    private static void foretelling() {
        Check.edge("Term FORETOLD: of FELT and START by HELD 0 and 1,000,000", () -> {
            foretold("sight 10 joint 20 touch 100 leans 0", "0", "odds", 0, -3, 0);
            foretold("sight 10 joint 20 touch 100 leans 1000", "0", "odds", 1000000, 3, 100);
            foretold("sight 10 joint 20 touch 100 leans 0", "0", "spans", 1000000, 3, 100);
        });
        Check.edge("Term FORETOLD: of FELT 6 by HELD, cut down: below and at a sixth", () -> {
            foretold("sight 20 joint 10 touch 100 leans 500", "60 strokes 0", "odds two 1000", 166666, -3, 16);
            foretold("sight 50 joint 99 touch 100 leans 173", "60 turned strokes 0", "odds", 166667, -2, 16);
            foretold("sight 10 joint 20 touch 100 leans 500", "30 strokes 0", "odds two 1000", 333333, -2, 33);
            foretold("sight 5 joint 20 touch 100 leans 458", "60 turned strokes 2", "odds two 500 turn 250", 333334, -1, 33);
        });
        Check.edge("Term FORETOLD: of FELT and START by HELD 499,999 and 500,000", () -> {
            foretold("sight 10 joint 10 touch 100 leans 200", "0 turned strokes 0", "odds two 500 turn 1000", 499999, -1, 49);
            foretold("sight 10 joint 20 touch 100 leans 500", "0 strokes 0", "odds two 1000", 500000, 0, 50);
        });
        Check.edge("Term FORETOLD: of FELT by HELD below and at two and five sixths", () -> {
            foretold("sight 50 joint 99 touch 100 leans 500", "0 strokes 0", "odds two 500", 666666, 0, 66);
            foretold("sight 60 joint 66 touch 100 leans 504", "16 late 100 strokes 2", "odds two 500 turn 999", 666667, 1, 66);
            foretold("sight 5 joint 5 touch 100 leans 500", "0 strokes 0", "odds two 200", 833333, 1, 83);
            foretold("sight 35 joint 92 touch 100 leans 757", "63 late 100 strokes 0", "odds two 500 turn 250", 833334, 2, 83);
        });
        Check.edge("Term FORETOLD: of FELT and START by HELD 999,999, of START by 9,999 and 10,000", () -> {
            foretold("sight 90 joint 10 touch 100 leans 993", "0 strokes 3", "odds two 100", 999999, 2, 99);
            foretold("sight 5 joint 50 touch 100 leans 10", "0 late 100 turned strokes 3", "odds two 500 turn 250", 9999, -3, 0);
            foretold("sight 10 joint 20 touch 100 leans 10", "0 strokes 0", "odds two 1000", 10000, -3, 1);
        });
        Check.edge("Term FORETOLD: of FELT of a TOLD SITTING by WISH, by every LAW", () -> {
            // 6 by WISH by 100, cut down
            int[][] due = {{0, -3}, {16, -3}, {17, -2}, {33, -2}, {34, -1}, {49, -1}, {50, 0}, {66, 0}, {67, 1}, {83, 1},
                {84, 2}, {99, 2}, {100, 3}};
            for (int[] d : due) {
                for (String law : new String[] {"spans", "odds", "wish"}) {
                    RubberHall x = Check.hall("person sight 10 joint 20 touch 100 leans 1000 yes 30 wish " + d[0]
                        + ";sitting far 9 told;sitting far 9;law " + law + ";line felt;");
                    Check.due("of WISH " + d[0] + " by " + law, x.foretold(0, 0, 0, 0), d[1]);
                    Check.due("not TOLD", x.foretold(0, 0, 1, 0), law.equals("wish") ? d[1] : 3);
                }
            }
        });
        Check.edge("Term FORETOLD: of SAID 6 by YES by 100, cut down, less 3", () -> {
            int[][] due = {{0, -3}, {16, -3}, {17, -2}, {33, -2}, {34, -1}, {49, -1}, {50, 0}, {66, 0}, {67, 1}, {83, 1},
                {84, 2}, {99, 2}, {100, 3}};
            for (int[] d : due) {
                RubberHall x = Check.hall("person sight 10 joint 20 touch 100 leans 1000 yes " + d[0]
                    + " wish 60;sitting far 9 told;sitting far 9;law odds;line said;");
                Check.due("of YES " + d[0] + ", TOLD", x.foretold(0, 0, 0, 0), d[1]);
                Check.due("of YES " + d[0], x.foretold(0, 0, 1, 0), d[1]);
            }
        });
        Check.edge("Term FORETOLD: of SHOWN the DRIFT, from 0 to 999", () -> {
            RubberHall x = hall("person sight 1 joint 99 touch 1 leans 500 wish 100", "999", "wish");
            Check.due("it", x.foretold(0, 0, 0, 20), 999);
            Check.due("of FAR 0", hall(500, "0", "spans").foretold(0, 0, 0, 20), 0);
        });
        Check.edge("Term FORETOLD: of SLOW COMES, or STROKES and 1, from 0 to 601", () -> {
            String half = "person sight 10 joint 20 touch 100 leans 500";
            Check.due("at first", hall(half, "0", "odds two 1000").foretold(0, 0, 0, 22), 0);
            Check.due("behind the last", hall(half, "90 late 100 strokes 3", "odds").foretold(0, 0, 0, 22), 3);
            Check.due("it doesn't come", hall(half, "90 late 100 strokes 2", "odds").foretold(0, 0, 0, 22), 3);
            Check.due("of 0 STROKES", hall(half, "90 strokes 0", "odds").foretold(0, 0, 0, 22), 1);
            String late = "person sight 50 joint 50 touch 1 leans 355";
            Check.due("the 600th", hall(late, "5 strokes 600", "odds two 999").foretold(0, 0, 0, 22), 600);
            Check.due("none of 600", hall(late, "6 strokes 600", "odds two 999").foretold(0, 0, 0, 22), 601);
            Check.due("TOLD", hall(half, "90 told strokes 9", "odds").foretold(0, 0, 0, 22), 10);
        });
        Check.edge("Term FORETOLD: of SLOW by SPANS 0, whatever comes", () -> {
            Check.due("it doesn't come", hall(0, "999 strokes 600", "spans").foretold(0, 0, 0, 22), 0);
            Check.due("it comes late", hall(500, "90 late 100 strokes 3", "spans").foretold(0, 0, 0, 22), 0);
        });
        Check.edge("Term FORETOLD: of SLOW by WISH STROKES less what is cut down", () -> {
            int[][] due = {{600, 0, 600}, {600, 100, 0}, {600, 1, 594}, {7, 50, 4}, {1, 99, 1}, {1, 100, 0}, {0, 100, 0},
                {0, 0, 0}};
            for (int[] d : due) {
                RubberHall x = hall("person sight 1 joint 1 touch 1 leans 500 wish " + d[1], "0 strokes " + d[0], "wish");
                Check.due("of STROKES " + d[0] + ", WISH " + d[1], x.foretold(0, 0, 0, 22), d[2]);
            }
        });
    }

    private static void ats() {
        Check.edge("Term HELD AT: FAR 0 and 999, LATE 0 and 2000", () -> {
            RubberHall x = Check.hall("person sight 10 joint 20 touch 100 leans 500;law odds;law spans;law wish;"
                + "sitting far 0;sitting far 999;sitting far 0 late 2000;sitting far 999 late 2000;");
            int[][] ends = {{0, 0}, {999, 0}, {0, 2000}, {999, 2000}};
            for (int i = 0; i < 4; i++) {
                int far = ends[i][0];
                int late = ends[i][1];
                Check.due("at(0, 0, " + far + ", " + late + ")", x.at(0, 0, far, late), x.one(0, 0, i, 60));
                Check.due("by SPANS", x.at(1, 0, far, late), 1000000);
                Check.due("by WISH", x.at(2, 0, far, late), 0);
            }
        });
        Check.edge("Term HELD AT: of 60 STROKES, not 59 or 61", () -> {
            // each stroke gains a thousandth
            RubberHall x = Check.hall("person sight 10 joint 20 touch 100 leans 500;law odds two 999;sitting far 9 strokes 61;");
            Check.due("as behind 60", x.at(0, 0, 9, 0), x.one(0, 0, 0, 60));
            Check.due("60 isn't 59", x.one(0, 0, 0, 59) == x.one(0, 0, 0, 60), false);
            Check.due("60 isn't 61", x.one(0, 0, 0, 61) == x.one(0, 0, 0, 60), false);
        });
        Check.edge("Term HELD AT: right way round, a hand, not TOLD, whatever SITTINGS there are", () -> {
            RubberHall x = Check.hall("person sight 10 joint 20 touch 100 leans 500;law odds two 999 turn 0 shape 0;"
                + "sitting far 30 late 5 turned stick told strokes 1;sitting far 30;sitting far 30 aside top told;");
            int due = x.one(0, 0, 1, 60);
            for (int i = 0; i < 3; i++) {
                x.held(0, 0, i, 0);
                Check.due("at(0, 0, 30, 0) behind SITTING " + i, x.at(0, 0, 30, 0), due);
            }
        });
        Check.edge("Term HELD AT: without any SITTING", () -> {
            RubberHall x = Check.hall("person sight 10 joint 20 touch 100 leans 500;law odds two 1000;");
            Check.due("at(0, 0, 30, 0)", x.at(0, 0, 30, 0), 333333);
        });
    }

    private static void falls(String person, String law, int far, int what, int due) {
        RubberHall x = Check.hall("person " + person + ";sitting far " + far + ";law " + law + ";");
        Check.due("FALLS " + what + " of " + person + " by " + law, x.falls(0, 0, 0, what), due);
    }

    private static void fallings() {
        Check.edge("Term FALLS: by FAR at 0", () -> falls("sight 1 joint 1 touch 1 leans 499", "odds two 1000", 9, 0, 0));
        Check.edge("Term FALLS: by FAR at 1, as 500,000 is not below", () -> {
            falls("sight 1 joint 1 touch 1 leans 500", "odds two 1000", 9, 0, 1);
            falls("sight 1 joint 1 touch 1 leans 0 wish 50", "wish", 9, 0, NEVER);
            falls("sight 1 joint 1 touch 1 leans 1000 wish 49", "wish", 9, 0, 0);
        });
        // the WEIGHT by 172 is below 28 by 972 from 998.7 mm on; by 176 that is beyond 999
        Check.edge("Term FALLS: by FAR at 999", () -> falls("sight 99 joint 73 touch 1 leans 972", "odds two 1000", 0, 0, 999));
        Check.edge("Term FALLS: by FAR beyond 999 it doesn't", () -> {
            falls("sight 99 joint 77 touch 1 leans 972", "odds two 1000", 0, 0, NEVER);
            // ONE is 500477 at 999, 499995 were it at 1000
            falls("sight 99 joint 92 touch 1 leans 966", "odds two 1000", 0, 0, NEVER);
        });
        Check.edge("Term FALLS: by LATE at 0", () -> falls("sight 1 joint 1 touch 1 leans 499", "odds two 1000", 0, 1, 0));
        Check.edge("Term FALLS: by LATE each ten, 10 the next", () -> {
            falls("sight 1 joint 1 touch 999 leans 500", "odds two 1000", 0, 1, 10);
            // TOUCH 1: from 1 ms on
            falls("sight 1 joint 1 touch 1 leans 900", "odds two 1000", 0, 1, 10);
        });
        // the WEIGHT by 999 is 201290 at 1990 ms, 199683 at 2000: by TWO 200 60 strokes gain 1.47 times or lose to 0.91
        Check.edge("Term FALLS: by LATE at 2000", () -> falls("sight 9 joint 9 touch 999 leans 145", "odds two 200", 0, 1, 2000));
        Check.edge("Term FALLS: by LATE beyond 2000 it doesn't",
            () -> falls("sight 9 joint 9 touch 999 leans 200", "odds two 200", 0, 1, NEVER));
        Check.edge("Term FALLS: never by SPANS", () -> {
            falls("sight 1 joint 1 touch 1 leans 0", "spans", 999, 0, NEVER);
            falls("sight 1 joint 1 touch 1 leans 0", "spans", 999, 1, NEVER);
        });
        Check.edge("Term FALLS: by FAR with LATE 0, by LATE with FAR of the SITTING, nothing else of it", () -> {
            RubberHall x = Check.hall("person sight 10 joint 20 touch 100 leans 600;law odds two 1000 turn 0 shape 0;"
                + "sitting far 22 late 900 turned stick told strokes 0;sitting far 21 late 900 turned stick told strokes 0;");
            // 3 by 2 are the odds; the WEIGHT by 30 is below two thirds from 21.3 mm on
            Check.due("by FAR", x.falls(0, 0, 0, 0), 22);
            Check.due("by FAR of another", x.falls(0, 0, 1, 0), 22);
            Check.due("by LATE at FAR 22", x.falls(0, 0, 0, 1), 0);
            Check.due("by LATE at FAR 21", x.falls(0, 0, 1, 1), 10);
        });
    }

    public static void main(String[] args) {
        weights();
        ones();
        waysAndThings();
        strokes();
        helds();
        drifts();
        comings();
        foretelling();
        ats();
        fallings();
        Check.end("EdgesOfHeadTest");
    }
}
