import java.nio.file.Files;
import java.nio.file.Path;
import java.util.Arrays;

/**
 * Promises 1 to 34: the last that is within and the first that is beyond, on either side, and that a refused call
 * changes nothing else. Refusal tells how many there are of each kind in the object on which calls are refused.
 */
public final class EdgesOfPromisesTest {
    private static final int MIN = Integer.MIN_VALUE;
    private static final int MAX = Integer.MAX_VALUE;
    private static final int NONE = RubberHall.NONE;
    private static final String MAN = "person sight1joint1touch1leans0;";
    // numbers of SITTINGS, of LAWS, of .. on either side of those that there are
    private static final int[] NO_PERSON = {-1, Refusal.PEOPLE, 20, MIN, MAX};
    private static final int[] NO_SITTING = {-1, Refusal.SITTINGS, 20, MIN, MAX};
    private static final int[] NO_LAW = {-1, Refusal.LAWS, 6, MIN, MAX};
    private static final int[] NO_LINE = {-1, Refusal.LINES, 12, MIN, MAX};
    private static final int[] NO_SHEET = {-1, Refusal.SHEETS, 60, MIN, MAX};

    private interface With {
        void call(RubberHall x, int number);
    }

    /** NoSuchElementException by each of these numbers, and nothing changes. */
    private static void none(String name, int[] numbers, With with) {
        for (int number : numbers) {
            Refusal.none(name + " " + number, x -> with.call(x, number));
        }
    }

    private static void illegal(String name, int[] numbers, With with) {
        for (int number : numbers) {
            Refusal.illegal(name + " " + number, x -> with.call(x, number));
        }
    }

    private static int[] beyond(int least, int most) {
        return new int[] {least - 1, most + 1, MIN, MAX};
    }

    private static void newObjects() {
        String p = "Promise 1 A new object: ";
        Check.edge(p + "an empty HOUSE, nothing else", () -> {
            RubberHall x = new RubberHall();
            for (int what = 0; what <= 10; what++) {
                Check.due("count(" + what + ")", x.count(what), 0);
            }
            Check.due("fault", x.fault(), NONE);
            Check.due("next", x.next(), NONE);
            Check.due("restore", x.restore(), false);
            Check.none("person(0, 0)", () -> x.person(0, 0));
            Check.none("sitting(0, 0)", () -> x.sitting(0, 0));
            Check.none("law(0, 0)", () -> x.law(0, 0));
            Check.none("isSaid(0)", () -> x.isSaid(0));
            Check.none("sheet(0, 0)", () -> x.sheet(0, 0));
            Check.none("value(0, 20)", () -> x.value(0, 20));
            Check.none("drawn(0, 0)", () -> x.drawn(0, 0));
            Check.none("credit(0)", () -> x.credit(0));
            Check.none("parts(0)", () -> x.parts(0));
        });
        Check.edge(p + "what needs no HOUSE answers", () -> {
            RubberHall x = new RubberHall();
            Check.due("wished(0)", x.wished(0), 0);
            Check.due("cold(0)", x.cold(0), 0);
            Check.due("apart(0)", x.apart(0), 0);
            Check.due("weight(1, 1)", x.weight(1, 1), 500000);
            Check.due("sheets(0)", x.sheets(0), 0);
            Check.illegal("slope(0)", () -> x.slope(0));
            Check.illegal("share(0)", () -> x.share(0));
        });
        Check.edge(p + "two of them share nothing", () -> {
            RubberHall x = Refusal.hall();
            RubberHall y = new RubberHall();
            for (int what = 0; what <= 10; what++) {
                Check.due("count(" + what + ")", y.count(what), 0);
            }
            Check.due("count(5) of the first", x.count(5), Refusal.SHEETS);
        });
        Check.edge("Promise 1 A new object: NONE is -1", () -> Check.due("NONE", RubberHall.NONE, -1));
    }

    private static void feeds() {
        String p = "Promise 2 feed: ";
        Check.edge(p + "the 1st 20, the 34th 680, the 35th 700", () -> {
            RubberHall x = new RubberHall();
            for (int i = 1; i <= 35; i++) {
                Check.due("feed " + i, x.feed(0x20202020, 0x20202020, 0x20202020, 0x20202020, 0x20202020), 20 * i);
                Check.due("count(7)", x.count(7), 20 * i);
            }
        });
        Check.edge(p + "the 36th NONE, and none come", () -> {
            RubberHall x = Refusal.hall();
            String seen = Refusal.seen(x);
            for (int i = 1; i <= 35; i++) {
                x.feed(0x20202020, 0x20202020, 0x20202020, 0x20202020, 0x20202020);
            }
            Check.due("the 36th", x.feed(0x78787878, 0, 0, 0, 0), NONE);
            Check.due("the 37th", x.feed(0x78787878, 0, 0, 0, 0), NONE);
            Check.due("count(7)", x.count(7), 700);
            Check.due("STATUS", x.count(8) + 10 * x.count(9) + 100 * x.count(10), 11);
            Check.same("what is there", Refusal.seen(x), seen);
            Check.due("house(700) of blanks", x.house(700), 0);
        });
        Check.edge(p + "of each number the highest first", () -> {
            RubberHall x = new RubberHall();
            // "line" " sai" "d;" and blanks
            x.feed(0x6c696e65, 0x20736169, 0x643b2020, 0x20202020, 0x20202020);
            Check.due("house(20)", x.house(20), 0);
            Check.due("isSaid(0)", x.isSaid(0), true);
        });
        Check.edge(p + "of five numbers, in their order", () -> {
            RubberHall x = new RubberHall();
            // "sitt" "ing " "far " "0042" "   ;"
            x.feed(0x73697474, 0x696e6720, 0x66617220, 0x30303432, 0x2020203b);
            Check.due("house(20)", x.house(20), 0);
            Check.due("FAR", x.sitting(0, 0), 42);
        });
        Check.edge(p + "numbers below 0, of bytes above 127", () -> {
            RubberHall x = new RubberHall();
            Check.due("feed", x.feed(0x20202020, 0x202020ff, MIN, -1, MAX), 20);
            Check.due("house(7)", x.house(7), 0);
            x.feed(0x20202020, 0x202020ff, MIN, -1, MAX);
            Check.due("house(8)", x.house(8), 1);
            Check.due("fault", x.fault(), 7);
        });
        Check.edge(p + "anew behind a TEXT that emptied the tape", () -> {
            RubberHall x = new RubberHall();
            x.feed(0, 0, 0, 0, 0);
            x.house(20);
            Check.due("feed", x.feed(0, 0, 0, 0, 0), 20);
            x.sheets(20);
            Check.due("feed", x.feed(0, 0, 0, 0, 0), 20);
            x.house(0);
            Check.due("feed", x.feed(0, 0, 0, 0, 0), 20);
        });
    }

    /** What the calls answer that ask the tables, and SHEETS made by them; then some are DRAWN. */
    private static String asked(RubberHall x) {
        StringBuilder s = new StringBuilder(Refusal.seen(x));
        for (int law = 0; law < Refusal.LAWS; law++) {
            for (int what = 0; what < 4; what++) {
                s.append(' ').append(x.fails(law, what));
            }
            for (int what : new int[] {0, 1, 20, 21, 22}) {
                s.append(' ').append(x.foretold(law, 1, 1, what));
            }
            for (int what = 0; what < 3; what++) {
                s.append(' ').append(x.held(law, 0, 1, what)).append(' ').append(x.spans(law, 1, what));
            }
            s.append(' ').append(x.credit(law)).append(' ').append(x.one(law, 1, 1, 3)).append(' ').append(x.at(law, 1, 9, 50));
            s.append(' ').append(x.falls(law, 1, 1, 0)).append(' ').append(x.falls(law, 1, 1, 1));
        }
        x.sheet(0, 2);
        x.sheet(1, 1);
        x.tell(Refusal.SHEETS, 23, -9);
        int[] found = {x.apart(0), x.apart(2), x.beside(0, 2, 1, 0), x.beside(2, 0, 1, 1), x.wished(0), x.wished(1), x.slope(0),
            x.share(0), x.share(3), x.parts(1), x.next(), x.cold(0), x.cold(2), x.cold(3), x.drawn(3, 5)};
        s.append(Arrays.toString(found)).append(Refusal.seen(x));
        return s.toString();
    }

    private static void houses() {
        String p = "Promise 3 house: ";
        illegal(p + "the tape of 20 has not so many", new int[] {21, 22, 700, 701, MAX}, (x, n) -> x.house(n));
        illegal(p + "n below 0", new int[] {-1, -20, MIN}, (x, n) -> x.house(n));
        Check.edge(p + "n above 0 of an empty tape", () -> {
            RubberHall x = Refusal.hall();
            Check.illegal("house(1)", () -> x.house(1));
            Check.due("count(7)", x.count(7), 0);
            Check.due("count(3)", x.count(3), Refusal.LINES);
        });
        Check.edge(p + "n 0 is an empty HOUSE, of an empty tape and of one of 20", () -> {
            for (int fed = 0; fed < 2; fed++) {
                RubberHall x = Refusal.hall();
                if (fed == 1) {
                    x.feed(0x78787878, 0, 0, 0, 0);
                }
                Check.due("house(0)", x.house(0), 0);
                for (int what = 0; what <= 7; what++) {
                    Check.due("count(" + what + ")", x.count(what), 0);
                }
                Check.due("fault", x.fault(), NONE);
            }
        });
        Check.edge(p + "all the tape's bytes, and all but one", () -> {
            RubberHall x = new RubberHall();
            Check.feed(x, "line felt;line said;");
            Check.due("house(20)", x.house(20), 0);
            Check.due("count(3)", x.count(3), 2);
            Check.feed(x, "line felt;line said;");
            Check.due("house(19)", x.house(19), 1);
            Check.due("fault", x.fault(), 19);
        });
        Check.edge(p + "the tape is empty then, also of what was not read, with a FAULT, too", () -> {
            RubberHall x = new RubberHall();
            Check.feed(x, "line felt;line said;line felt;");
            Check.due("house(10)", x.house(10), 0);
            Check.due("count(7)", x.count(7), 0);
            Check.feed(x, "line felt;line said;line felt;");
            Check.due("house(8)", x.house(8), 1);
            Check.due("count(7)", x.count(7), 0);
        });
        Check.edge(p + "the FAULT 1, 2, 3, and all else stays but STATUS", () -> {
            Refusal.house("line felt;line", 1, 14);
            Refusal.house("line felt;sitting far 1000;", 2, 22);
            Refusal.house("line felt;off foo;", 3, 14);
        });
        Check.edge(p + "an EXPR is read anew behind ten that had a FAULT within 5 others and behind 6 'not'", () -> {
            RubberHall x = new RubberHall();
            for (int i = 0; i < 10; i++) {
                Check.due("FAULT", Check.house(x, "off " + "not not not not not not(".repeat(5)), 1);
            }
            Check.due("the seventh 'not'", Check.house(x, "off not not not not not not not 1;"), 2);
            Check.due("one 'not'", Check.house(x, "off not 1;"), 0);
            Check.due("house", Check.house(x, MAN + "sitting far1;off 1 and not(1<2);off not(1<2 and not 2<3)and 1;"), 0);
            x.sheet(0, 0);
            Check.due("RULE", x.value(0, 34), 1);
        });
        Check.edge(p + "behind a TEXT with a FAULT every call answers as before", () -> {
            String before = asked(Refusal.hall());
            for (String text : new String[] {"x", MAN.repeat(9) + "sitting far9 told;".repeat(9) + "law wish;".repeat(6)
                + "line said;".repeat(9) + "off 1;x"}) {
                RubberHall x = Refusal.hall();
                Check.due("house of " + text, Check.house(x, text), 1);
                Check.illegal("strokes of a SITTING of 4 behind " + text, () -> x.one(0, 1, 1, 5));
                Check.same("every call behind " + text, asked(x), before);
            }
        });
        Check.edge(p + "SHEETS and the image are gone, STATUS stays", () -> {
            RubberHall x = Refusal.hall();
            Check.due("house", Check.house(x, MAN + "sitting far1;line felt;"), 0);
            Check.due("count(5)", x.count(5), 0);
            Check.due("count(6)", x.count(6), 0);
            Check.due("restore", x.restore(), false);
            Check.due("STATUS", x.count(8) + 10 * x.count(9) + 100 * x.count(10), 11);
            Check.none("value(0, 20)", () -> x.value(0, 20));
            Check.due("sheet", x.sheet(0, 0), 0);
            Check.due("nothing told of it", x.value(0, 20), 0);
        });
        Check.edge(p + "nothing of the HOUSE that was, nothing of a TEXT with a FAULT", () -> {
            RubberHall x = Refusal.hall();
            Check.due("a TEXT with a FAULT", Check.house(x, MAN.repeat(5) + "law wish;off 1;off 1;x"), 1);
            Check.due("house", Check.house(x, "law spans;"), 0);
            int[] due = {0, 0, 1, 0, 0};
            for (int what = 0; what < 5; what++) {
                Check.due("count(" + what + ")", x.count(what), due[what]);
            }
            Check.due("KIND", x.law(0, 0), 0);
        });
        Check.edge(p + "RULES of the HOUSE that was take nothing off", () -> {
            RubberHall x = new RubberHall();
            String[] rules = {"off 0;off 1;", "off 0;", "off 1;", "off 0;", "", "off not 1;", "off 1;", "off 0 and 0 or 0+1;",
                "off 0;"};
            int[] due = {1, NONE, 0, NONE, NONE, NONE, 0, 0, NONE};
            for (int i = 0; i < rules.length; i++) {
                Check.house(x, MAN + "sitting far1;" + rules[i]);
                x.sheet(0, 0);
                Check.due("RULE of " + rules[i], x.value(0, 34), due[i]);
            }
        });
        Check.edge(p + "nothing of an EXPR with a FAULT is in one that comes later", () -> {
            RubberHall x = new RubberHall();
            String[] faults = {"off not;", "off 0 and;", "off 1 or;", "off (not (1 and;", "off 5-", "off 1;off 0*"};
            for (String fault : faults) {
                Check.due("house of " + fault, Check.house(x, fault), 1);
                for (int i = 0; i < 2; i++) {
                    Check.house(x, MAN + "sitting far1;off " + i + ";");
                    x.sheet(0, 0);
                    Check.due("RULE of off " + i + " behind " + fault, x.value(0, 34), i == 1 ? 0 : NONE);
                }
            }
        });
    }

    private static void sheetTexts() {
        String p = "Promise 4 sheets: ";
        illegal(p + "the tape of 20 has not so many", new int[] {21, 22, 700, 701, MAX}, (x, n) -> x.sheets(n));
        illegal(p + "n below 0", new int[] {-1, -20, MIN}, (x, n) -> x.sheets(n));
        Check.edge(p + "n 0: none came", () -> {
            RubberHall x = Refusal.hall();
            x.feed(0x78787878, 0, 0, 0, 0);
            String seen = Refusal.seen(x);
            Check.due("sheets(0)", x.sheets(0), 0);
            Check.same("what is there", Refusal.seen(x), seen);
            Check.due("count(7)", x.count(7), 0);
            Check.due("fault", x.fault(), NONE);
        });
        Check.edge(p + "behind those that there are", () -> {
            RubberHall x = Refusal.hall();
            Check.due("sheets", Check.sheets(x, "sheet 1 0 shown 8;sheet 0 2 shown 9;"), 2);
            Check.due("count(5)", x.count(5), Refusal.SHEETS + 2);
            Check.due("SHOWN of the first new one", x.value(Refusal.SHEETS, 20), 8);
            Check.due("SHOWN of the last", x.value(Refusal.SHEETS + 1, 20), 9);
            Check.due("SHOWN of the first", x.value(0, 20), 77);
            Check.due("the image stays", x.restore(), true);
            Check.due("count(5) of it", x.count(5), 1);
        });
        Check.edge(p + "-1 less the FAULT 1, 2, 4, none came, the tape is empty", () -> {
            Refusal.sheets("sheet 0 0 shown 5;sheet", 1, 23);
            Refusal.sheets("sheet 0 0 shown 5;sheet 0 0 7;", 2, 28);
            Refusal.sheets("sheet 0 0 shown 5;sheet 2 0;", 4, 24);
        });
        Check.edge(p + "nothing of a TEXT with a FAULT is in a SHEET that comes later", () -> {
            RubberHall x = Refusal.hall();
            Check.sheets(x, "sheet 1 1 6 6 shown 5 start 5 slow 5 cold 5;sheet 1 1 6 6 shown 5;x");
            Check.due("sheet", x.sheet(0, 0), Refusal.SHEETS);
            for (int what : new int[] {0, 1, 20, 21, 22}) {
                Check.due("value " + what, x.value(Refusal.SHEETS, what), 0);
            }
            Check.due("COLD", x.value(Refusal.SHEETS, 23), 100);
            Check.due("PERSON", x.value(Refusal.SHEETS, 30), 0);
        });
    }

    private static void faults() {
        String p = "Promise 5 fault: ";
        Check.edge(p + "NONE at first, of the latest of house() and sheets(), NONE without", () -> {
            RubberHall x = new RubberHall();
            Check.due("at first", x.fault(), NONE);
            Check.house(x, "x");
            Check.due("at 0", x.fault(), 0);
            Check.sheets(x, " x");
            Check.due("at 1", x.fault(), 1);
            Check.house(x, "");
            Check.due("of a HOUSE without", x.fault(), NONE);
            Check.sheets(x, "   x");
            Check.due("at 3", x.fault(), 3);
            Check.sheets(x, "");
            Check.due("of SHEETS without", x.fault(), NONE);
        });
        Check.edge(p + "it stays by all other calls, by those that threw, too", () -> {
            RubberHall x = Refusal.hall();
            x.feed(0, 0, 0, 0, 0);
            x.sheet(0, 0);
            x.tell(0, 20, 5000);
            x.drawn(0, 1);
            x.image();
            x.restore();
            Check.illegal("house(21)", () -> x.house(21));
            Check.illegal("sheets(-1)", () -> x.sheets(-1));
            Check.due("fault", x.fault(), 3);
        });
    }

    private static void tables() {
        none("Promise 6 count: another what", beyond(0, 10), (x, n) -> x.count(n));
        Check.edge("Promise 6 count: each what from 0 to 10", () -> {
            RubberHall x = Refusal.hall();
            x.feed(0, 0, 0, 0, 0);
            int[] due = {2, 3, 4, 2, 1, 3, 2, 20, 1, 1, 0};
            for (int what = 0; what <= 10; what++) {
                Check.due("count(" + what + ")", x.count(what), due[what]);
            }
        });
        none("Promise 7 person: no such PERSON", NO_PERSON, (x, n) -> x.person(n, 0));
        none("Promise 7 person: another what", beyond(0, 6), (x, n) -> x.person(0, n));
        none("Promise 8 sitting: no such SITTING", NO_SITTING, (x, n) -> x.sitting(n, 0));
        none("Promise 8 sitting: another what", beyond(0, 5), (x, n) -> x.sitting(0, n));
        none("Promise 9 law: no such LAW", NO_LAW, (x, n) -> x.law(n, 0));
        none("Promise 9 law: another what", beyond(0, 4), (x, n) -> x.law(0, n));
        none("Promise 10 isSaid: no such LINE", NO_LINE, (x, n) -> x.isSaid(n));
        Check.edge("Promise 7 person: the first and the last, each what from 0 to 6", () -> {
            int[][] due = {{10, 20, 100, 500, 30, 40, 0}, {20, 10, 50, 600, 0, 0, 0}};
            RubberHall x = Refusal.hall();
            for (int what = 0; what <= 6; what++) {
                Check.due("person(0, " + what + ")", x.person(0, what), due[0][what]);
                Check.due("person(1, " + what + ")", x.person(1, what), due[1][what]);
            }
        });
        Check.edge("Promise 8 sitting: the first and the last, each what from 0 to 5", () -> {
            int[][] due = {{30, 0, 0, 0, 0, 2}, {60, 100, 1, 1, 0, 4}, {30, 0, 0, 0, 1, 60}};
            RubberHall x = Refusal.hall();
            for (int what = 0; what <= 5; what++) {
                for (int i = 0; i < 3; i++) {
                    Check.due("sitting(" + i + ", " + what + ")", x.sitting(i, what), due[i][what]);
                }
            }
        });
        Check.edge("Promise 9 law: the first and the last, each what from 0 to 4", () -> {
            int[][] due = {{1, 1000, 20, 100, 300}, {2, 300, 20, 100, 300}, {0, 300, 20, 100, 300}, {1, 300, 9, 100, 300}};
            RubberHall x = Refusal.hall();
            for (int what = 0; what <= 4; what++) {
                for (int i = 0; i < 4; i++) {
                    Check.due("law(" + i + ", " + what + ")", x.law(i, what), due[i][what]);
                }
            }
        });
        Check.edge("Promise 10 isSaid: the first and the last", () -> {
            RubberHall x = Refusal.hall();
            Check.due("isSaid(0)", x.isSaid(0), false);
            Check.due("isSaid(1)", x.isSaid(1), true);
        });
    }

    private static void heads() {
        illegal("Promise 11 weight: the span is not 1 to 9999,", beyond(1, 9999), (x, n) -> x.weight(5, n));
        illegal("Promise 11 weight: the difference is not -9999 to 9999,", beyond(-9999, 9999), (x, n) -> x.weight(n, 5));
        Check.edge("Promise 11 weight: at each bound", () -> {
            RubberHall x = new RubberHall();
            Check.due("weight(0, 1)", x.weight(0, 1), 1000000);
            Check.due("weight(0, 9999)", x.weight(0, 9999), 1000000);
            Check.due("weight(9999, 1)", x.weight(9999, 1), 0);
            Check.due("weight(-9999, 9999)", x.weight(-9999, 9999), 500000);
        });
        none("Promise 12 one: no such LAW", NO_LAW, (x, n) -> x.one(n, 0, 0, 0));
        none("Promise 12 one: no such PERSON", NO_PERSON, (x, n) -> x.one(0, n, 0, 0));
        none("Promise 12 one: no such SITTING", NO_SITTING, (x, n) -> x.one(0, 0, n, 0));
        none("Promise 12 one: no such LAW, ahead of strokes that are too many", NO_LAW, (x, n) -> x.one(n, 0, 0, 3));
        none("Promise 12 one: no such PERSON, ahead of strokes below 0", NO_PERSON, (x, n) -> x.one(0, n, 0, -1));
        none("Promise 12 one: no such SITTING, ahead of strokes below 0", NO_SITTING, (x, n) -> x.one(0, 0, n, -1));
        illegal("Promise 12 one: strokes of a SITTING of 2 are", beyond(0, 2), (x, n) -> x.one(0, 0, 0, n));
        illegal("Promise 12 one: strokes of a TOLD SITTING of 60 are", beyond(0, 60), (x, n) -> x.one(0, 0, 2, n));
        Check.edge("Promise 12 one: strokes from 0 to those of the SITTING, of 0, 2, 600", () -> {
            RubberHall x = Check.hall("person sight 10 joint 20 touch 100 leans 500;sitting far 30 strokes 0;"
                + "sitting far 30 strokes 2;sitting far 30 strokes 600;law odds two 1000;");
            Check.due("one(0, 0, 0, 0)", x.one(0, 0, 0, 0), 333333);
            Check.illegal("one(0, 0, 0, 1)", () -> x.one(0, 0, 0, 1));
            Check.due("one(0, 0, 1, 2)", x.one(0, 0, 1, 2), 333333);
            Check.illegal("one(0, 0, 1, 3)", () -> x.one(0, 0, 1, 3));
            Check.due("one(0, 0, 2, 600)", x.one(0, 0, 2, 600), 333333);
            Check.illegal("one(0, 0, 2, 601)", () -> x.one(0, 0, 2, 601));
        });
        none("Promise 13 held: no such LAW", NO_LAW, (x, n) -> x.held(n, 0, 0, 0));
        none("Promise 13 held: no such PERSON", NO_PERSON, (x, n) -> x.held(0, n, 0, 0));
        none("Promise 13 held: no such SITTING", NO_SITTING, (x, n) -> x.held(0, 0, n, 0));
        none("Promise 13 held: another what", beyond(0, 2), (x, n) -> x.held(0, 0, 0, n));
        Check.edge("Promise 13 held: each what from 0 to 2, NONE: it doesn't come", () -> {
            RubberHall x = Refusal.hall();
            int[] due = {333333, 7, NONE};
            for (int what = 0; what <= 2; what++) {
                Check.due("held(0, 0, 0, " + what + ")", x.held(0, 0, 0, what), due[what]);
            }
        });
        Check.edge("Promise 13 held: of each LAW, PERSON and SITTING by its own numbers", () -> {
            RubberHall x = Check.hall("person sight 10 joint 20 touch 1 leans 500 wish 40;"
                + "person sight 20 joint 10 touch 1 leans 1000 wish 60;sitting far 0 strokes 0;sitting far 100 strokes 0;"
                + "law wish;law spans;law odds two 1000;");
            int[][] shown = {{0, 40}, {0, 60}, {0, 80}, {0, 20}, {0, 6}, {0, 20}};
            int[][] held = {{400000, 400000}, {600000, 600000}, {1000000, 1000000}, {1000000, 1000000}, {500000, 76270},
                {1000000, 1000000}};
            int[][] comes = {{0, NONE}, {0, 0}, {0, NONE}, {0, 0}, {0, NONE}, {0, 0}};
            for (int i = 0; i < 12; i++) {
                String call = "held(" + i / 4 + ", " + i / 2 % 2 + ", " + i % 2 + ", ";
                Check.due(call + "0)", x.held(i / 4, i / 2 % 2, i % 2, 0), held[i / 2][i % 2]);
                Check.due(call + "1)", x.held(i / 4, i / 2 % 2, i % 2, 1), shown[i / 2][i % 2]);
                Check.due(call + "2)", x.held(i / 4, i / 2 % 2, i % 2, 2), comes[i / 2][i % 2]);
            }
        });
        none("Promise 14 foretold: no such LAW", NO_LAW, (x, n) -> x.foretold(n, 0, 0, 20));
        none("Promise 14 foretold: no such PERSON", NO_PERSON, (x, n) -> x.foretold(0, n, 0, 20));
        none("Promise 14 foretold: no such SITTING", NO_SITTING, (x, n) -> x.foretold(0, 0, n, 20));
        none("Promise 14 foretold: no such LINE, another what", new int[] {-1, Refusal.LINES, 11, 12, 13, 19, 23, 24, 30, MIN, MAX},
            (x, n) -> x.foretold(0, 0, 0, n));
        Check.edge("Promise 14 foretold: LINES 0 and the last, 20 to 22", () -> {
            RubberHall x = Refusal.hall();
            int[][] due = {{0, -2}, {1, -2}, {20, 7}, {21, 33}, {22, 3}};
            for (int[] d : due) {
                Check.due("foretold(0, 0, 0, " + d[0] + ")", x.foretold(0, 0, 0, d[0]), d[1]);
            }
            RubberHall y = Check.hall("person sight1joint1touch1leans0yes100wish50;sitting far1;law wish;"
                + "line felt;".repeat(11) + "line said;");
            Check.due("the 11th LINE", y.foretold(0, 0, 0, 10), 0);
            Check.due("the 12th LINE", y.foretold(0, 0, 0, 11), 3);
            Check.none("a 13th", () -> y.foretold(0, 0, 0, 12));
        });
    }

    private static void sheet() {
        none("Promise 15 sheet: no such PERSON", NO_PERSON, (x, n) -> x.sheet(n, 0));
        none("Promise 15 sheet: no such SITTING", NO_SITTING, (x, n) -> x.sheet(0, n));
        Check.edge("Promise 15 sheet: its number, of the first and the last PERSON and SITTING", () -> {
            RubberHall x = Refusal.hall();
            Check.due("sheet(0, 0)", x.sheet(0, 0), Refusal.SHEETS);
            Check.due("sheet(1, 2)", x.sheet(1, 2), Refusal.SHEETS + 1);
            Check.due("PERSON", x.value(Refusal.SHEETS + 1, 30), 1);
            Check.due("SITTING", x.value(Refusal.SHEETS + 1, 31), 2);
        });
        Check.edge("Promise 15 sheet: the 60th 59, then NONE, and nothing changes but STATUS 2", () -> {
            RubberHall x = Refusal.hall();
            for (int i = Refusal.SHEETS; i < 60; i++) {
                Check.due("sheet " + i, x.sheet(0, 1), i);
            }
            Check.due("sheet(1, 2)", x.sheet(1, 2), NONE);
            Check.due("count(5)", x.count(5), 60);
            Check.due("count(6)", x.count(6), 59);
            Check.due("PERSON of the last", x.value(59, 30), 0);
            Check.due("SITTING of the last", x.value(59, 31), 1);
            Check.due("SHOWN of the first", x.value(0, 20), 77);
            Check.due("STATUS", x.count(8) + 10 * x.count(9) + 100 * x.count(10), 111);
            Check.none("no such PERSON, ahead of NONE", () -> x.sheet(2, 0));
            Check.none("no such SITTING, ahead of NONE", () -> x.sheet(0, 3));
            Check.due("STATUS 2", x.count(10), 1);
            Check.due("restore", x.restore(), true);
            Check.due("then there is room", x.sheet(0, 0), 1);
        });
    }

    private static void telling(String what, int number, int least, int most) {
        String p = "Promise 16 tell: ";
        Check.edge(p + what + " " + least + ", the least, and " + most + ", the most", () -> {
            RubberHall x = Refusal.hall();
            for (int value : new int[] {least, most, least, 0}) {
                Check.due("tell(1, " + number + ", " + value + ")", x.tell(1, number, value), true);
                Check.due("value(1, " + number + ")", x.value(1, number), value);
            }
            Check.due("STATUS 1", x.count(9), 1);
        });
        for (int value : beyond(least, most)) {
            Refusal.answers(p + what + " " + value + " is beyond its bounds", 0, 2, x -> x.tell(1, number, value) ? 1 : 0);
        }
    }

    private static void tellings() {
        none("Promise 16 tell: no such SHEET", NO_SHEET, (x, n) -> x.tell(n, 0, 0));
        none("Promise 16 tell: no such SHEET, ahead of its bounds", NO_SHEET, (x, n) -> x.tell(n, 20, 1000));
        int[] others = {-1, Refusal.LINES, 11, 12, 13, 14, 15, 16, 17, 19, 24, 29, 30, 31, 32, 33, 34, 35, MIN, MAX};
        none("Promise 16 tell: another what", others, (x, n) -> x.tell(0, n, 0));
        none("Promise 16 tell: another what, ahead of its bounds", others, (x, n) -> x.tell(0, n, 5000));
        telling("an answer to LINE 0", 0, -3, 3);
        telling("an answer to the last LINE", 1, -3, 3);
        telling("SHOWN", 20, -999, 999);
        telling("START", 21, 0, 100);
        telling("SLOW", 22, 0, 601);
        telling("COLD", 23, -50, 50);
        Refusal.answers("Promise 16 tell: COLD 100 isn't not looked for", 0, 2, x -> x.tell(1, 23, 100) ? 1 : 0);
        Check.edge("Promise 16 tell: answers from -3 to 3 to each of 12 LINES", () -> {
            RubberHall x = Check.hall(MAN + "sitting far1;" + "line felt;line said;".repeat(6));
            x.sheet(0, 0);
            for (int line = 0; line < 12; line++) {
                for (int value : new int[] {-4, -3, 4, 3}) {
                    boolean within = value >= -3 && value <= 3;
                    Check.due("tell(0, " + line + ", " + value + ")", x.tell(0, line, value), within);
                    Check.due("value(0, " + line + ")", x.value(0, line), within ? value : value < 0 ? 0 : -3);
                }
            }
            Check.due("STATUS 1", x.count(9), 24);
        });
        Check.edge("Promise 16 tell: of the last SHEET, of the 12th LINE", () -> {
            RubberHall x = Check.hall(MAN + "sitting far1;" + "line felt;".repeat(12));
            for (int i = 0; i < 60; i++) {
                x.sheet(0, 0);
            }
            Check.due("tell", x.tell(59, 11, 3), true);
            Check.due("value", x.value(59, 11), 3);
            Check.due("another SHEET's", x.value(58, 11), 0);
            Check.due("another LINE's", x.value(59, 10), 0);
            Check.due("SHOWN", x.value(59, 20), 0);
            Check.none("a 13th LINE", () -> x.tell(59, 12, 3));
        });
    }

    private static void values() {
        none("Promise 17 value: no such SHEET", NO_SHEET, (x, n) -> x.value(n, 0));
        none("Promise 17 value: another what", new int[] {-1, Refusal.LINES, 11, 12, 13, 15, 16, 17, 19, 24, 29, 35, 36, MIN, MAX},
            (x, n) -> x.value(0, n));
        Check.edge("Promise 17 value: of the first and the last SHEET, each what", () -> {
            RubberHall x = Refusal.hall();
            int[] whats = {0, 1, 20, 21, 22, 23, 30, 31, 32, 33, 34};
            int[][] due = {{1, 0, 77, 0, 0, 5, 1, 2, 1, 0, NONE}, {2, -1, 10, 20, 30, -4, 0, 0, 2, -1, NONE},
                {3, -3, 950, 0, 0, 100, 1, 1, 3, -3, 0}};
            for (int i = 0; i < 3; i++) {
                for (int j = 0; j < whats.length; j++) {
                    Check.due("value(" + i + ", " + whats[j] + ")", x.value(i, whats[j]), due[i][j]);
                }
            }
        });
        Check.edge("Promise 17 value: 34 NONE, a RULE, -2: its PERSON SAYS YES and no RULE holds", () -> {
            RubberHall x = Refusal.hall();
            Check.due("NONE", x.value(0, 34), NONE);
            x.tell(0, 1, 3);
            Check.due("together they are 0", x.value(0, 34), NONE);
            x.tell(2, 1, -2);
            Check.due("together they are 1", x.value(0, 34), -2);
            Check.due("a RULE holds", x.value(2, 34), 0);
        });
        Check.edge("Promise 17 value: COLD 100, if it wasn't looked for, else from -50 to 50", () -> {
            RubberHall x = Refusal.hall();
            Check.due("not looked for", x.value(2, 23), 100);
            x.tell(2, 23, 0);
            Check.due("looked for", x.value(2, 23), 0);
        });
    }

    private static void drawings() {
        none("Promise 18 drawn: no such LAW", NO_LAW, (x, n) -> x.drawn(n, 5));
        Check.edge("Promise 18 drawn: how many, by the first and the last LAW, the least and the most seed", () -> {
            for (int law = 0; law < Refusal.LAWS; law++) {
                for (int seed : new int[] {MIN, -1, 0, MAX}) {
                    RubberHall x = Refusal.hall();
                    Check.due("drawn", x.drawn(law, seed), 6);
                    Check.due("count(5)", x.count(5), 6);
                }
            }
        });
        Check.edge("Promise 18 drawn: the image stays", () -> {
            RubberHall x = Refusal.hall();
            x.drawn(0, 5);
            Check.due("restore", x.restore(), true);
            Check.due("count(5)", x.count(5), 1);
            Check.due("SHOWN", x.value(0, 20), 77);
        });
    }

    private static void findings() {
        none("Promise 19 credit: no such LAW", NO_LAW, (x, n) -> x.credit(n));
        none("Promise 20 fails: no such LAW", NO_LAW, (x, n) -> x.fails(n, 0));
        none("Promise 20 fails: another what", beyond(0, 3), (x, n) -> x.fails(0, n));
        none("Promise 21 apart: what is not 0 to 2,", beyond(0, 2), (x, n) -> x.apart(n));
        none("Promise 22 beside: no such SITTING", NO_SITTING, (x, n) -> x.beside(n, 0, 0, 0));
        none("Promise 22 beside: no such other SITTING", NO_SITTING, (x, n) -> x.beside(0, n, 0, 0));
        none("Promise 22 beside: both no such SITTING", NO_SITTING, (x, n) -> x.beside(n, n, 0, 0));
        none("Promise 22 beside: another number", beyond(0, 3), (x, n) -> x.beside(0, 1, n, 0));
        none("Promise 22 beside: another what", beyond(0, 2), (x, n) -> x.beside(0, 1, 0, n));
        none("Promise 22 beside: another number of one SITTING", beyond(0, 3), (x, n) -> x.beside(1, 1, n, 0));
        none("Promise 22 beside: another what of one SITTING", beyond(0, 2), (x, n) -> x.beside(1, 1, 0, n));
        for (int i = 0; i < 3; i++) {
            int sitting = i;
            Refusal.answers("Promise 22 beside: both SITTINGS are " + i, NONE, 1, x -> x.beside(sitting, sitting, 3, 2));
        }
        none("Promise 23 wished: another what", beyond(0, 1), (x, n) -> x.wished(n));
        none("Promise 24 slope: what is not 0, 1,", beyond(0, 1), (x, n) -> x.slope(n));
        none("Promise 25 share: another what", beyond(0, 5), (x, n) -> x.share(n));
        illegal("Promise 24 slope: there is none by LATE,", new int[] {1}, (x, n) -> x.slope(n));
        illegal("Promise 25 share: there are no such SHEETS,", new int[] {1, 2, 4, 5}, (x, n) -> x.share(n));
        none("Promise 26 parts: no such SITTING", NO_SITTING, (x, n) -> x.parts(n));
        none("Promise 32 cold: another what", beyond(0, 3), (x, n) -> x.cold(n));
        Check.edge("Promise 19 credit: of the first and the last LAW", () -> {
            RubberHall x = Check.hall("law odds;".repeat(6));
            Check.due("credit(0)", x.credit(0), 166666);
            Check.due("credit(5)", x.credit(5), 166666);
            Check.none("credit(6)", () -> x.credit(6));
        });
        Check.edge("Promise 20 fails: each what from 0 to 3", () -> {
            RubberHall x = Check.hall(MAN + "person sight2joint1touch1leans0;sitting far40;law spans;");
            Check.sheets(x, "sheet 0 0 shown 5;sheet 1 0 shown 3;sheet 1 0 shown 5;sheet 1 0 shown 6;");
            // FORETOLD 20 of the first PERSON, 8 of the other
            int[] due = {15 + 5 + 3 + 2, 1, 1, 1};
            for (int what = 0; what <= 3; what++) {
                Check.due("fails(0, " + what + ")", x.fails(0, what), due[what]);
            }
        });
        Check.edge("Promise 21 apart: each what from 0 to 2", () -> {
            RubberHall x = Check.hall(MAN + "sitting far40;line felt;");
            Check.sheets(x, "sheet 0 0 3 shown 5;sheet 0 0 2 shown 4;sheet 0 0 1 shown 4;"
                + "sheet 0 0 0 shown 6;sheet 0 0 3 shown 9;");
            // 0-1, 0-2 the same way; 0-3 the other; 0-4 like 'felt'; 1-2 like SHOWN; 1-3, 2-3 the other; 1-4, 2-4, 3-4 the same
            int[] due = {5, 3, 2};
            for (int what = 0; what <= 2; what++) {
                Check.due("apart(" + what + ")", x.apart(what), due[what]);
            }
        });
        Check.edge("Promise 22 beside: each number from 0 to 3, each what from 0 to 2, 10 of each and 11", () -> {
            RubberHall x = Check.hall(MAN + "sitting far1;sitting far2;line felt;");
            Check.sheets(x, "sheet 0 0 4 shown 5 start 6 slow 7;".repeat(10));
            Check.sheets(x, "sheet 0 1 4 shown 5 start 6 slow 7;".repeat(10));
            int[] sums = {10, 50, 60, 70};
            for (int number = 0; number <= 3; number++) {
                Check.due("beside(0, 1, " + number + ", 0)", x.beside(0, 1, number, 0), sums[number]);
                Check.due("beside(0, 1, " + number + ", 1)", x.beside(0, 1, number, 1), 184756);
                Check.due("beside(0, 1, " + number + ", 2)", x.beside(0, 1, number, 2), 184756);
            }
            x.sheet(0, 1);
            Check.due("11 of the other", x.beside(0, 1, 0, 0), NONE);
            Check.due("11 of the first", x.beside(1, 0, 0, 0), NONE);
        });
        Check.edge("Promise 23 wished: what 0 and 1", () -> {
            RubberHall x = Check.hall(MAN + "sitting far 9 told;sitting far 9;line felt;");
            Check.sheets(x, "sheet 0 0 3;sheet 0 1 4;sheet 0 1 3;");
            Check.due("wished(0)", x.wished(0), 2);
            Check.due("wished(1)", x.wished(1), 1);
        });
        Check.edge("Promise 24 slope: no such what, ahead of none", () -> {
            RubberHall x = new RubberHall();
            Check.none("slope(2)", () -> x.slope(2));
            Check.none("slope(-1)", () -> x.slope(-1));
            Check.illegal("slope(1)", () -> x.slope(1));
        });
        Check.edge("Promise 25 share: no such what, ahead of no such SHEETS", () -> {
            RubberHall x = new RubberHall();
            Check.none("share(6)", () -> x.share(6));
            Check.none("share(-1)", () -> x.share(-1));
            Check.illegal("share(5)", () -> x.share(5));
        });
        Check.edge("Promise 25 share: each THING by 0 to 2, each WAY by 3 to 5", () -> {
            RubberHall x = Check.hall(MAN + "sitting far1;sitting far1stick;sitting far1top;"
                + "sitting far1turned;sitting far1aside;");
            Check.sheets(x, "sheet 0 0 shown 10;sheet 0 1 shown 20;sheet 0 2 shown 40;sheet 0 3 shown 80;sheet 0 4 shown 160;");
            // hands: 10, 80, 160; right way round: 10, 20, 40
            int[] due = {83, 20, 40, 23, 80, 160};
            for (int what = 0; what <= 5; what++) {
                Check.due("share(" + what + ")", x.share(what), due[what]);
            }
        });
        Check.edge("Promise 26 parts: 0 with fewer than two LAWS, the first and the last SITTING", () -> {
            String sittings = "sitting far 0;" + "sitting far 5;".repeat(18) + "sitting far 999;";
            RubberHall x = Check.hall(MAN + sittings + "law spans;");
            Check.due("of one LAW", x.parts(19), 0);
            Check.due("of none", Check.hall(MAN + sittings).parts(19), 0);
            RubberHall y = Check.hall(MAN + sittings + "law spans;law wish;");
            Check.due("the first", y.parts(0), 0);
            Check.due("the last", y.parts(19), 499);
        });
        Check.edge("Promise 27 next: NONE without SITTINGS", () -> {
            Check.due("next", Check.hall(MAN + "law spans;law wish;").next(), NONE);
            Check.due("of one", Check.hall(MAN + "law spans;law wish;sitting far 0;").next(), 0);
        });
        Check.edge("Promise 32 cold: each what from 0 to 3", () -> {
            RubberHall x = Check.hall(MAN.repeat(3) + "sitting far1;");
            Check.sheets(x, "sheet 0 0 cold less 2;sheet 1 0 cold less 2;sheet 2 0 cold less 2;sheet 0 0 cold less 2;"
                + "sheet 1 0 cold 0;sheet 2 0 cold 0;sheet 2 0 cold 9;");
            int[] due = {7, 4, 3, 1};
            for (int what = 0; what <= 3; what++) {
                Check.due("cold(" + what + ")", x.cold(what), due[what]);
            }
        });
    }

    private static void lookings() {
        String p = "Promise 28 looked: ";
        illegal(p + "n is not 1 to 40,", new int[] {0, 41, -1, MIN, MAX}, (x, n) -> x.looked(n, 0, 50));
        illegal(p + "k of 5 is not 0 to 5,", beyond(0, 5), (x, n) -> x.looked(5, n, 50));
        illegal(p + "k of 40 is not 0 to 40,", beyond(0, 40), (x, n) -> x.looked(40, n, 50));
        illegal(p + "k of 1 is not 0, 1,", beyond(0, 1), (x, n) -> x.looked(1, n, 50));
        illegal(p + "the chance is not 0 to 100,", beyond(0, 100), (x, n) -> x.looked(5, 5, n));
        Check.edge(p + "at each bound", () -> {
            RubberHall x = new RubberHall();
            Check.due("looked(1, 0, 0)", x.looked(1, 0, 0), 1000000);
            Check.due("looked(1, 1, 0)", x.looked(1, 1, 0), 0);
            Check.due("looked(1, 1, 100)", x.looked(1, 1, 100), 1000000);
            Check.due("looked(40, 0, 100)", x.looked(40, 0, 100), 1000000);
            Check.due("looked(40, 40, 100)", x.looked(40, 40, 100), 1000000);
            Check.due("looked(40, 40, 0)", x.looked(40, 40, 0), 0);
        });
    }

    private static void ats() {
        none("Promise 29 at: no such LAW", NO_LAW, (x, n) -> x.at(n, 0, 0, 0));
        none("Promise 29 at: no such PERSON", NO_PERSON, (x, n) -> x.at(0, n, 0, 0));
        none("Promise 29 at: no such LAW, ahead of FAR 1000", NO_LAW, (x, n) -> x.at(n, 0, 1000, 0));
        none("Promise 29 at: no such PERSON, ahead of LATE -1", NO_PERSON, (x, n) -> x.at(0, n, 0, -1));
        illegal("Promise 29 at: FAR is not 0 to 999,", beyond(0, 999), (x, n) -> x.at(0, 0, n, 0));
        illegal("Promise 29 at: LATE is not 0 to 2000,", beyond(0, 2000), (x, n) -> x.at(0, 0, 0, n));
        Check.edge("Promise 29 at: at each bound, by the first and the last LAW and PERSON", () -> {
            RubberHall x = Refusal.hall();
            for (int far : new int[] {0, 999}) {
                for (int late : new int[] {0, 2000}) {
                    Check.due("at(1, 0, " + far + ", " + late + ")", x.at(1, 0, far, late), 400000);
                    Check.due("at(1, 1, " + far + ", " + late + ")", x.at(1, 1, far, late), 0);
                }
            }
            Check.due("at(0, 0, 0, 0)", x.at(0, 0, 0, 0), 500000);
            Check.due("at(0, 1, 0, 0)", x.at(0, 1, 0, 0), 600000);
        });
        none("Promise 30 falls: no such LAW", NO_LAW, (x, n) -> x.falls(n, 0, 0, 0));
        none("Promise 30 falls: no such PERSON", NO_PERSON, (x, n) -> x.falls(0, n, 0, 0));
        none("Promise 30 falls: no such SITTING, by FAR,", NO_SITTING, (x, n) -> x.falls(0, 0, n, 0));
        none("Promise 30 falls: no such SITTING, by LATE,", NO_SITTING, (x, n) -> x.falls(0, 0, n, 1));
        none("Promise 30 falls: another what", beyond(0, 1), (x, n) -> x.falls(0, 0, 0, n));
        Check.edge("Promise 30 falls: by FAR (0) and by LATE (1), NONE: it doesn't", () -> {
            RubberHall x = Check.hall("person sight 1 joint 1 touch 1 leans 500;law odds two 1000;law spans;"
                + "sitting far 0;sitting far 1;");
            Check.due("falls(0, 0, 1, 0)", x.falls(0, 0, 1, 0), 1);
            Check.due("falls(0, 0, 0, 1)", x.falls(0, 0, 0, 1), 10);
            Check.due("falls(0, 0, 1, 1)", x.falls(0, 0, 1, 1), 0);
            Check.due("falls(1, 0, 0, 0)", x.falls(1, 0, 0, 0), NONE);
            Check.due("falls(1, 0, 0, 1)", x.falls(1, 0, 0, 1), NONE);
        });
        none("Promise 31 spans: no such LAW", NO_LAW, (x, n) -> x.spans(n, 0, 0));
        none("Promise 31 spans: no such PERSON", NO_PERSON, (x, n) -> x.spans(0, n, 0));
        none("Promise 31 spans: another what", beyond(0, 2), (x, n) -> x.spans(0, 0, n));
        Check.edge("Promise 31 spans: each what from 0 to 2, NONE: no such SHEETS, another what ahead of it", () -> {
            RubberHall x = Check.hall(MAN.repeat(2) + "sitting far 100;law spans;");
            Check.sheets(x, "sheet 1 0 shown 92;");
            // 92.04 by 85 85 by (85 85 and 25 25)
            int[] due = {25, 85, 0};
            for (int what = 0; what <= 2; what++) {
                Check.due("spans(0, 0, " + what + ")", x.spans(0, 0, what), NONE);
                Check.due("spans(0, 1, " + what + ")", x.spans(0, 1, what), due[what]);
            }
            Check.none("spans(0, 0, 3)", () -> x.spans(0, 0, 3));
            Check.none("spans(0, 0, -1)", () -> x.spans(0, 0, -1));
        });
    }

    private static void images() {
        String p = "Promise 33 image: ";
        Check.edge(p + "of no SHEETS is an image", () -> {
            RubberHall x = Check.hall(MAN + "sitting far1;");
            x.image();
            x.sheet(0, 0);
            Check.due("restore", x.restore(), true);
            Check.due("count(5)", x.count(5), 0);
        });
        Check.edge(p + "of an empty HOUSE", () -> {
            RubberHall x = new RubberHall();
            x.image();
            Check.due("restore", x.restore(), true);
            Check.due("count(5)", x.count(5), 0);
        });
        Check.edge(p + "of 60 SHEETS, all of each", () -> {
            RubberHall x = Check.hall(MAN.repeat(2) + "sitting far1;sitting far2;line felt;");
            for (int i = 0; i < 60; i++) {
                x.tell(x.sheet(i % 2, i / 2 % 2), 20, i);
            }
            x.tell(59, 0, 3);
            x.tell(59, 23, -50);
            x.image();
            for (int i = 0; i < 60; i++) {
                x.tell(i, 20, -i);
            }
            x.tell(59, 0, -3);
            x.tell(59, 23, 50);
            Check.due("restore", x.restore(), true);
            for (int i = 0; i < 60; i++) {
                Check.due("SHOWN of " + i, x.value(i, 20), i);
            }
            Check.due("the last's answer", x.value(59, 0), 3);
            Check.due("the last's COLD", x.value(59, 23), -50);
            Check.due("the last's PERSON", x.value(59, 30), 1);
            Check.due("the last's SITTING", x.value(59, 31), 1);
        });
        Check.edge(p + "in place of another one", () -> {
            RubberHall x = Refusal.hall();
            x.image();
            x.drawn(0, 1);
            Check.due("restore", x.restore(), true);
            Check.due("count(5)", x.count(5), Refusal.SHEETS);
            x.drawn(0, 1);
            x.image();
            Check.due("restore", x.restore(), true);
            Check.due("count(5)", x.count(5), 6);
        });
        Check.edge(p + "what is told later isn't in it, twice restored it is the same", () -> {
            RubberHall x = Refusal.hall();
            for (int i = 0; i < 2; i++) {
                Check.due("restore", x.restore(), true);
                Check.due("count(5)", x.count(5), 1);
                Check.due("SHOWN", x.value(0, 20), 77);
                x.tell(0, 20, i);
                x.sheet(0, 0);
            }
        });
        String r = "Promise 34 restore: ";
        Check.edge(r + "false without an image, and nothing changes", () -> {
            RubberHall x = Refusal.hall();
            Check.house(x, MAN + "sitting far1;line felt;line said;");
            Check.sheets(x, "sheet 0 0 5 5 shown 7;");
            x.feed(0, 0, 0, 0, 0);
            String seen = Refusal.seen(x);
            Check.due("restore", x.restore(), false);
            Check.same("what is there", Refusal.seen(x), seen);
            Check.due("count(7)", x.count(7), 20);
            Check.due("STATUS", x.count(8) + 10 * x.count(9) + 100 * x.count(10), 11);
        });
        Check.edge(r + "false behind a HOUSE, true behind a TEXT of a HOUSE with a FAULT", () -> {
            RubberHall x = Refusal.hall();
            Check.house(x, "x");
            Check.due("behind a FAULT", x.restore(), true);
            Check.house(x, "");
            Check.due("behind a HOUSE", x.restore(), false);
            x.image();
            Check.due("behind another image", x.restore(), true);
        });
        Check.edge(r + "SHEETS alone: the tape, the FAULT, STATUS stay", () -> {
            RubberHall x = Refusal.hall();
            x.feed(0, 0, 0, 0, 0);
            Check.due("restore", x.restore(), true);
            Check.due("count(7)", x.count(7), 20);
            Check.due("fault", x.fault(), 3);
            Check.due("STATUS", x.count(8) + 10 * x.count(9) + 100 * x.count(10), 11);
            Check.due("LINES", x.count(3), Refusal.LINES);
        });
        Check.edge(r + "of more SHEETS than there are, and of fewer", () -> {
            RubberHall x = Check.hall(MAN + "sitting far1;law wish;");
            for (int i = 0; i < 60; i++) {
                x.sheet(0, 0);
            }
            x.image();
            Check.due("drawn", x.drawn(0, 1), 1);
            Check.due("restore", x.restore(), true);
            Check.due("count(5)", x.count(5), 60);
            Check.due("the 61st", x.sheet(0, 0), NONE);
        });
    }

    /** Each heading of a promise in the document has tests here that are named after it. */
    private static void eachPromise() throws Exception {
        for (String line : Files.readAllLines(Path.of("../shared/DOC.md"))) {
            if (line.startsWith("## Promise ")) {
                String name = line.substring(3).replaceFirst(": ", " ") + ": ";
                boolean has = Check.edges().stream().anyMatch(edge -> edge.startsWith(name));
                Check.due("a test named " + name, has, true);
            }
        }
    }

    public static void main(String[] args) throws Exception {
        newObjects();
        feeds();
        houses();
        sheetTexts();
        faults();
        tables();
        heads();
        sheet();
        tellings();
        values();
        drawings();
        findings();
        lookings();
        ats();
        images();
        eachPromise();
        Check.end("EdgesOfPromisesTest");
    }
}
