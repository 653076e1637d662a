import java.util.function.ToIntFunction;

/** Terms from PEOPLE to CLAUSE: how many there may be of each kind, the bounds of each number, the TEXT of a HOUSE. */
public final class EdgesOfHouseTest {
    private static final String PERSON = "person sight1joint1touch1leans0;";

    private static void howMany(String term, int what, String clause, String first, int most) {
        String all = clause.repeat(most);
        Check.edge(term + ": none", () -> {
            RubberHall x = Check.hall(what == 3 ? "law odds;" : "line felt;");
            Check.due("count(" + what + ")", x.count(what), 0);
        });
        Check.edge(term + ": one", () -> Check.due("count(" + what + ")", Check.hall(clause).count(what), 1));
        Check.edge(term + ": " + most + ", as many as there may be", () -> {
            RubberHall x = Check.hall(all);
            Check.due("count(" + what + ")", x.count(what), most);
            Check.due("fault", x.fault(), RubberHall.NONE);
        });
        Check.edge(term + ": one more than " + most + " is FAULT 2 at its first TOKEN",
            () -> Refusal.house(all + " \n" + clause, 2, all.length() + 2));
        Check.edge(term + ": one more is FAULT 2, though its first TOKEN is the last of the TEXT",
            () -> Refusal.house(all + first, 2, all.length()));
    }

    private static void howManyOfAll() {
        howMany("Term PEOPLE", 0, PERSON, "person", 20);
        howMany("Term SITTINGS", 1, "sitting far0;", "sitting", 20);
        howMany("Term LAWS", 2, "law odds;", "law", 6);
        howMany("Term LINES", 3, "line felt;", "line", 12);
        howMany("Term RULES", 4, "off 1;", "off", 4);
        Check.edge("Term HOUSE: each kind is counted by itself, in any order", () -> {
            RubberHall x = Check.hall("sitting far0;line said;".repeat(12) + "law odds;off 1;".repeat(4)
                + "sitting far0;".repeat(8) + "law odds;".repeat(2) + PERSON.repeat(4));
            int[] due = {4, 20, 6, 12, 4};
            for (int what = 0; what < due.length; what++) {
                Check.due("count(" + what + ")", x.count(what), due[what]);
            }
        });
        Check.edge("Term HOUSE: 20 PEOPLE and 4 SITTINGS, each tells its own", () -> {
            StringBuilder text = new StringBuilder();
            for (int i = 0; i < 4; i++) {
                text.append("sitting far").append(i).append(";");
            }
            for (int i = 0; i < 20; i++) {
                text.append("person sight").append(i % 7 + 1).append("joint").append(i % 8 + 1).append("touch").append(i % 9 + 1)
                    .append("leans").append(i % 5).append(';');
            }
            RubberHall x = Check.hall(text.toString());
            for (int i = 0; i < 20; i++) {
                int[] due = {i % 7 + 1, i % 8 + 1, i % 9 + 1, i % 5, 0, 0};
                for (int what = 0; what < 6; what++) {
                    Check.due("person(" + i + ", " + what + ")", x.person(i, what), due[what]);
                }
            }
            int[] due = {0, 0, 0, 0, 0, 60};
            for (int i = 0; i < 4; i++) {
                for (int what = 0; what < 6; what++) {
                    Check.due("sitting(" + i + ", " + what + ")", x.sitting(i, what), what == 0 ? i : due[what]);
                }
            }
        });
        Check.edge("Term HOUSE: 20 SITTINGS, 6 LAWS, 12 LINES, 4 RULES, each tells its own", () -> {
            StringBuilder text = new StringBuilder("line said;" + "line felt;line said;".repeat(5) + "line felt;");
            for (int i = 0; i < 20; i++) {
                text.append("sitting far").append(i % 9).append(";");
            }
            for (int i = 0; i < 6; i++) {
                text.append("law odds two").append(i + 1).append("shape").append(i + 2).append(';');
            }
            RubberHall x = Check.hall(text + "off 0;off 0;off 0;off 1;" + PERSON);
            for (int i = 0; i < 20; i++) {
                Check.due("FAR of " + i, x.sitting(i, 0), i % 9);
                Check.due("STROKES of " + i, x.sitting(i, 5), 60);
            }
            for (int i = 0; i < 6; i++) {
                int[] due = {1, i + 1, 20, 100, i + 2};
                for (int what = 0; what < 5; what++) {
                    Check.due("law(" + i + ", " + what + ")", x.law(i, what), due[what]);
                }
            }
            for (int i = 0; i < 12; i++) {
                Check.due("isSaid(" + i + ")", x.isSaid(i), i % 2 == 0);
            }
            x.sheet(0, 19);
            Check.due("the RULE that holds", x.value(0, 34), 3);
        });
        Check.edge("Term PEOPLE: numbered from 0 on", () -> {
            RubberHall x = Check.hall(PERSON.repeat(19) + "person sight9joint8touch7leans6;");
            Check.due("the last's SIGHT", x.person(19, 0), 9);
            Check.due("the first's SIGHT", x.person(0, 0), 1);
            Check.none("person(20)", () -> x.person(20, 0));
        });
        Check.edge("Term SITTINGS: numbered from 0 on", () -> {
            RubberHall x = Check.hall("sitting far4;" + "sitting far0;".repeat(18) + "sitting far9strokes 7;");
            Check.due("the last's FAR", x.sitting(19, 0), 9);
            Check.due("the last's STROKES", x.sitting(19, 5), 7);
            Check.due("the first's FAR", x.sitting(0, 0), 4);
            Check.none("sitting(20)", () -> x.sitting(20, 0));
        });
        Check.edge("Term LAWS: numbered from 0 on", () -> {
            RubberHall x = Check.hall("law wish;" + "law odds;".repeat(4) + "law spans shape 5;");
            Check.due("the last's SHAPE", x.law(5, 4), 5);
            Check.due("the first's KIND", x.law(0, 0), 2);
            Check.none("law(6)", () -> x.law(6, 0));
        });
        Check.edge("Term LINES: numbered from 0 on", () -> {
            RubberHall x = Check.hall("line said;" + "line felt;".repeat(10) + "line said;");
            Check.due("the first is SAID", x.isSaid(0), true);
            Check.due("the last but one is SAID", x.isSaid(10), false);
            Check.due("the last is SAID", x.isSaid(11), true);
            Check.none("isSaid(12)", () -> x.isSaid(12));
        });
    }

    private static void bounds(String term, String before, String behind, int least, int most,
            ToIntFunction<RubberHall> asked) {
        Check.edge(term + ": " + least + ", the least",
            () -> Check.due("it", asked.applyAsInt(Check.hall(before + least + behind)), least));
        Check.edge(term + ": " + most + ", the most",
            () -> Check.due("it", asked.applyAsInt(Check.hall(before + most + behind)), most));
        Check.edge(term + ": " + (most + 1) + " is FAULT 2 at the NUMBER",
            () -> Refusal.house(before + (most + 1) + behind, 2, before.length()));
        if (least > 0) {
            Check.edge(term + ": " + (least - 1) + " is FAULT 2 at the NUMBER",
                () -> Refusal.house(before + (least - 1) + behind, 2, before.length()));
        }
        Check.edge(term + ": below 0 can't be written, the sign is FAULT 1",
            () -> Refusal.house(before + "-1" + behind, 1, before.length()));
        Check.edge(term + ": 9999 and 5 digits are FAULT 2", () -> {
            Refusal.house(before + "9999" + behind, 2, before.length());
            Refusal.house(before + "0000" + most + behind, 2, before.length());
        });
    }

    private static void boundsOfPeople() {
        bounds("Term SIGHT", "person sight ", " joint 2 touch 3 leans 4;", 1, 99, x -> x.person(0, 0));
        bounds("Term JOINT", "person sight 1 joint ", " touch 3 leans 4;", 1, 99, x -> x.person(0, 1));
        bounds("Term TOUCH", "person sight 1 joint 2 touch ", " leans 4;", 1, 999, x -> x.person(0, 2));
        bounds("Term LEANS", "person sight 1 joint 2 touch 3 leans ", ";", 0, 1000, x -> x.person(0, 3));
        bounds("Term YES", "person sight 1 joint 2 touch 3 leans 4 yes ", ";", 0, 100, x -> x.person(0, 4));
        bounds("Term WISH", "person sight 1 joint 2 touch 3 leans 4 wish ", ";", 0, 100, x -> x.person(0, 5));
        bounds("Term WISH behind YES", "person sight 1 joint 2 touch 3 leans 4 yes 5 wish ", ";", 0, 100,
            x -> x.person(0, 5));
    }

    private static void boundsOfSittings() {
        bounds("Term FAR", "sitting far ", ";", 0, 999, x -> x.sitting(0, 0));
        bounds("Term LATE", "sitting far 1 late ", " turned;", 0, 2000, x -> x.sitting(0, 1));
        bounds("Term STROKES", "sitting far 1 aside top told strokes ", ";", 0, 600, x -> x.sitting(0, 5));
        Check.edge("Term WAY: 0 right, 1 turned about, 2 aside", () -> {
            RubberHall x = Check.hall("sitting far 1;sitting far 1 turned;sitting far 1 aside;");
            for (int i = 0; i < 3; i++) {
                Check.due("WAY of " + i, x.sitting(i, 2), i);
                Check.due("THING of " + i, x.sitting(i, 3), 0);
            }
        });
        Check.edge("Term WAY: of 'turned' and 'aside' one alone", () -> {
            Refusal.house("sitting far 1 turned aside;", 1, 21);
            Refusal.house("sitting far 1 aside turned;", 1, 20);
        });
        Check.edge("Term THING: 0 hand, 1 stick, 2 table top", () -> {
            RubberHall x = Check.hall("sitting far 1;sitting far 1 stick;sitting far 1 top;");
            for (int i = 0; i < 3; i++) {
                Check.due("THING of " + i, x.sitting(i, 3), i);
                Check.due("WAY of " + i, x.sitting(i, 2), 0);
            }
        });
        Check.edge("Term THING: of 'stick' and 'top' one alone", () -> {
            Refusal.house("sitting far 1 stick top;", 1, 20);
            Refusal.house("sitting far 1 top stick;", 1, 18);
        });
        Check.edge("Term TOLD: only told of 1, else 0", () -> {
            RubberHall x = Check.hall("sitting far 1;sitting far 1 told;sitting far 1 aside top strokes 0;");
            Check.due("TOLD of 0", x.sitting(0, 4), 0);
            Check.due("TOLD of 1", x.sitting(1, 4), 1);
            Check.due("TOLD of 2", x.sitting(2, 4), 0);
        });
    }

    private static void boundsOfLaws() {
        bounds("Term TWO", "law spans two ", ";", 1, 1000, x -> x.law(0, 1));
        bounds("Term SPREAD", "law odds two 5 spread ", " turn 7;", 1, 99, x -> x.law(0, 2));
        bounds("Term TURN", "law wish turn ", ";", 0, 1000, x -> x.law(0, 3));
        bounds("Term SHAPE", "law odds turn 6 shape ", ";", 0, 1000, x -> x.law(0, 4));
        Check.edge("Term KIND: 0 SPANS, 1 ODDS, 2 WISH", () -> {
            RubberHall x = Check.hall("law spans;law odds;law wish;");
            for (int i = 0; i < 3; i++) {
                Check.due("KIND of " + i, x.law(i, 0), i);
            }
        });
        Check.edge("Term KIND: another word is FAULT 1", () -> {
            Refusal.house("law span;", 1, 4);
            Refusal.house("law spanss;", 1, 4);
            Refusal.house("law two 5;", 1, 4);
        });
        Check.edge("Term LINES: FELT or SAID, another word is FAULT 1", () -> {
            RubberHall x = Check.hall("line felt;line said;");
            Check.due("isSaid(0)", x.isSaid(0), false);
            Check.due("isSaid(1)", x.isSaid(1), true);
            Refusal.house("line fel;", 1, 5);
            Refusal.house("line saida;", 1, 5);
            Refusal.house("line off;", 1, 5);
        });
    }

    private static void without() {
        Check.edge("Term HOUSE: without yes and wish, these are 0", () -> {
            RubberHall x = Check.hall("person sight 9 joint 9 touch 9 leans 9 yes 8 wish 7;"
                + "person sight 9 joint 9 touch 9 leans 9;person sight 9 joint 9 touch 9 leans 9 yes 6;"
                + "person sight 9 joint 9 touch 9 leans 9 wish 5;");
            int[][] due = {{8, 7}, {0, 0}, {6, 0}, {0, 5}};
            for (int i = 0; i < 4; i++) {
                Check.due("YES of " + i, x.person(i, 4), due[i][0]);
                Check.due("WISH of " + i, x.person(i, 5), due[i][1]);
            }
        });
        Check.edge("Term HOUSE: without late LATE is 0, without strokes there are 60", () -> {
            RubberHall x = Check.hall("sitting far 9 late 8 strokes 7;sitting far 9;sitting far 9 late 6;"
                + "sitting far 9 strokes 5;");
            int[][] due = {{8, 7}, {0, 60}, {6, 60}, {0, 5}};
            for (int i = 0; i < 4; i++) {
                Check.due("LATE of " + i, x.sitting(i, 1), due[i][0]);
                Check.due("STROKES of " + i, x.sitting(i, 5), due[i][1]);
            }
        });
        Check.edge("Term HOUSE: without them TWO 300, SPREAD 20, TURN 100, SHAPE 300", () -> {
            RubberHall x = Check.hall("law odds two 9 spread 8 turn 7 shape 6;law odds;law odds two 5;law odds spread 4;"
                + "law odds turn 3;law odds shape 2;");
            int[][] due = {{9, 8, 7, 6}, {300, 20, 100, 300}, {5, 20, 100, 300}, {300, 4, 100, 300}, {300, 20, 3, 300},
                {300, 20, 100, 2}};
            for (int i = 0; i < 6; i++) {
                for (int j = 0; j < 4; j++) {
                    Check.due("law(" + i + ", " + (j + 1) + ")", x.law(i, j + 1), due[i][j]);
                }
            }
        });
    }

    /** A CLAUSE's TOKENS up to one of them; a ';' stands for itself, apart from what is before it. */
    private static String upTo(String[] tokens, int end) {
        StringBuilder text = new StringBuilder();
        for (int i = 0; i < end; i++) {
            text.append(i == 0 ? "" : " ").append(tokens[i]);
        }
        return text.toString();
    }

    private static void behind(String[] tokens, int from, StringBuilder text) {
        for (int i = from; i < tokens.length; i++) {
            text.append(text.length() == 0 ? "" : " ").append(tokens[i]);
        }
    }

    private static void clause(String whole, String mayBeLeftOut) {
        String[] tokens = whole.split(" ");
        String term = "Term CLAUSE '" + tokens[0] + "'";
        Check.edge(term + ": whole", () -> Check.due("it", Check.house(new RubberHall(), whole), 0));
        Check.edge(term + ": FAULT 1 at the text's length where it ends too soon, behind each TOKEN", () -> {
            for (int i = 1; i < tokens.length; i++) {
                String text = upTo(tokens, i);
                Refusal.house(text, 1, text.length());
                Refusal.house(text + " \n ", 1, text.length() + 3);
            }
        });
        Check.edge(term + ": without a TOKEN that must stand, FAULT 1 at the next", () -> {
            for (int i = 0; i < tokens.length; i++) {
                if (!(" " + mayBeLeftOut + " ").contains(" " + tokens[i] + " ")) {
                    StringBuilder text = new StringBuilder(upTo(tokens, i));
                    int place = i == 0 ? 0 : text.length() + (i + 1 < tokens.length ? 1 : 0);
                    behind(tokens, i + 1, text);
                    Refusal.house(text.toString(), 1, place);
                }
            }
        });
        Check.edge(term + ": a TOKEN twice, FAULT 1 at the second", () -> {
            for (int i = 0; i < tokens.length; i++) {
                StringBuilder text = new StringBuilder(upTo(tokens, i + 1));
                int place = text.length() + 1;
                behind(tokens, i, text);
                // behind 'off' a PART must stand
                Refusal.house(text.toString(), tokens[i].equals("off") ? 3 : 1, place);
            }
        });
    }

    private static void clauses() {
        clause("person sight 10 joint 20 touch 100 leans 500 yes 50 wish 40 ;", "");
        clause("sitting far 30 late 40 turned stick told strokes 7 ;", "turned stick told");
        clause("law odds two 5 spread 6 turn 7 shape 8 ;", "");
        clause("line felt ;", "");
        clause("off 1 ;", "");
        Check.edge("Term CLAUSE: what may stand stands in its order alone", () -> {
            Refusal.house("person sight 1 joint 1 touch 1 leans 0 wish 1 yes 1;", 1, 46);
            Refusal.house("person joint 1 sight 1 touch 1 leans 0;", 1, 7);
            Refusal.house("sitting far 0 turned late 4;", 1, 21);
            Refusal.house("sitting far 0 stick turned;", 1, 20);
            Refusal.house("sitting far 0 told top;", 1, 19);
            Refusal.house("sitting far 0 strokes 5 told;", 1, 24);
            Refusal.house("law odds spread 5 two 5;", 1, 18);
            Refusal.house("law odds turn 5 spread 5;", 1, 16);
            Refusal.house("law odds shape 1 turn 1;", 1, 17);
        });
        Check.edge("Term CLAUSE: each of what may stand, alone and without the others", () -> {
            String[] alone = {"late 1", "turned", "aside", "stick", "top", "told", "strokes 1", ""};
            for (String s : alone) {
                Check.due("sitting " + s, Check.house(new RubberHall(), "sitting far 1 " + s + ";"), 0);
            }
        });
        Check.edge("Term HOUSE: no CLAUSE is begun by another word, a NUMBER or a sign", () -> {
            for (String s : new String[] {"people", "persons", "sheet", "felt", "a", "z", "0", ";", "("}) {
                Refusal.house("line felt;" + s, 1, 10);
            }
        });
    }

    private static void emptyHouse() {
        Check.edge("Term HOUSE: no CLAUSE is an empty one", () -> {
            for (String text : new String[] {"", " ", "\n", "   \n\n "}) {
                RubberHall x = Check.hall("line felt;" + PERSON);
                Check.due("house of blanks", Check.house(x, text), 0);
                for (int what = 0; what < 5; what++) {
                    Check.due("count(" + what + ")", x.count(what), 0);
                }
            }
        });
        Check.edge("Term HOUSE: an empty one at first", () -> {
            RubberHall x = new RubberHall();
            for (int what = 0; what < 5; what++) {
                Check.due("count(" + what + ")", x.count(what), 0);
            }
        });
    }

    public static void main(String[] args) {
        howManyOfAll();
        boundsOfPeople();
        boundsOfSittings();
        boundsOfLaws();
        without();
        clauses();
        emptyHouse();
        Check.end("EdgesOfHouseTest");
    }
}
